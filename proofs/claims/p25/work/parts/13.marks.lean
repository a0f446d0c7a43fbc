abbrev rm_X0_periodOf : Room := { frames := 0, cells := 0, slots := 0, locals := 0 }
set_option maxRecDepth 100000 in
set_option maxHeartbeats 4000000 in
theorem c_X0_periodOf_0 (l : Launch) (hlt : l.stackTraces = false) (g : k_g) (ad : k_AD) (t : k_T) (k : Nat) (hk : k < o_n t) (hd : o_on t k ≤ 360) : Met l yX0_periodOf wsX0_periodOf rm_X0_periodOf (va_Pc [.ref (ad 25 k), .int (nI 0)] (k_I g (k_ct g ad t) ad)) (va_Qi (fun r u => r = nI (k_pd 0 (o_on t k)) ∧ u = t) (fun u U => k_H g ad u U.heap) (k_A g)) 0 0 (k_A g) := by
  refine k_met (cc := cX0_periodOf) (maxL := 2) (ret := (some .int)) (by decide) rfl (Nat.le_of_ble_eq_true rfl) (fun p e s m args below meth c Q ls hQ hx hb hr hml hts hown hlk hin hK hZ hN hW hS hl => ?_)
  have hown : s.vm.findClass RX0 = some m.cls := hown
  have hW : k_H g ad t s.heap := hW
  have hl : lv_has ls 2 [(0, .ref (ad 25 k)), (1, .int (nI 0))] := hl
  have hinX0 : ∀ w ∈ wsX00, w ∈ wsX0_periodOf := by decide +kernel
  refine lv_iload_n hx hb dX0_periodOf_0 rfl (lv_at hl 1 rfl) ?_
  refine lv_lookup (off := 43) (tgt := 44) hx hb dX0_periodOf_1 (by decide) (by decide) (by decide) ?_
  refine lv_aload_n hx hb dX0_periodOf_44 rfl (lv_at hl 0 rfl) ?_
  refine k_get (own := RX0) (C := RX0) (T := TX0) (N := 11) hx hb hts hinX0 hown hK hW (kc_25 g ad t hk) rfl 1 (by decide) (hts (.fieldLink RX0 19 "DrillVault$Copy" "madeOn" "I") (by decide +kernel)) rfl (v := .int (nI (o_on t k))) rfl dX0_periodOf_45 ?_
  exact k_ri hQ hx hb hr hlk hS hW ⟨rfl, rfl⟩ (Nat.le_of_ble_eq_true rfl) (Nat.le_of_ble_eq_true rfl) dX0_periodOf_48
set_option maxRecDepth 100000 in
set_option maxHeartbeats 4000000 in
theorem c_X0_periodOf_1 (l : Launch) (hlt : l.stackTraces = false) (g : k_g) (ad : k_AD) (t : k_T) (k : Nat) (hk : k < o_n t) (hd : o_on t k ≤ 360) : Met l yX0_periodOf wsX0_periodOf rm_X0_periodOf (va_Pc [.ref (ad 25 k), .int (nI 1)] (k_I g (k_ct g ad t) ad)) (va_Qi (fun r u => r = nI (k_pd 1 (o_on t k)) ∧ u = t) (fun u U => k_H g ad u U.heap) (k_A g)) 0 0 (k_A g) := by
  refine k_met (cc := cX0_periodOf) (maxL := 2) (ret := (some .int)) (by decide) rfl (Nat.le_of_ble_eq_true rfl) (fun p e s m args below meth c Q ls hQ hx hb hr hml hts hown hlk hin hK hZ hN hW hS hl => ?_)
  have hown : s.vm.findClass RX0 = some m.cls := hown
  have hW : k_H g ad t s.heap := hW
  have hl : lv_has ls 2 [(0, .ref (ad 25 k)), (1, .int (nI 1))] := hl
  have hinX0 : ∀ w ∈ wsX00, w ∈ wsX0_periodOf := by decide +kernel
  refine lv_iload_n hx hb dX0_periodOf_0 rfl (lv_at hl 1 rfl) ?_
  refine lv_lookup (off := 27) (tgt := 28) hx hb dX0_periodOf_1 (by decide) (by decide) (by decide) ?_
  refine lv_aload_n hx hb dX0_periodOf_28 rfl (lv_at hl 0 rfl) ?_
  refine k_get (own := RX0) (C := RX0) (T := TX0) (N := 11) hx hb hts hinX0 hown hK hW (kc_25 g ad t hk) rfl 1 (by decide) (hts (.fieldLink RX0 19 "DrillVault$Copy" "madeOn" "I") (by decide +kernel)) rfl (v := .int (nI (o_on t k))) rfl dX0_periodOf_29 ?_
  refine lv_bipush (v := nI 7) hx hb dX0_periodOf_32 (by decide) ?_
  refine lv_idiv hx hb dX0_periodOf_34 (by decide) ?_
  refine k_toi (pk_div (by omega) (by decide) (by decide)) ?_
  exact k_ri hQ hx hb hr hlk hS hW ⟨rfl, rfl⟩ (Nat.le_of_ble_eq_true rfl) (Nat.le_of_ble_eq_true rfl) dX0_periodOf_35
set_option maxRecDepth 100000 in
set_option maxHeartbeats 4000000 in
theorem c_X0_periodOf_2 (l : Launch) (hlt : l.stackTraces = false) (g : k_g) (ad : k_AD) (t : k_T) (k : Nat) (hk : k < o_n t) (hd : o_on t k ≤ 360) : Met l yX0_periodOf wsX0_periodOf rm_X0_periodOf (va_Pc [.ref (ad 25 k), .int (nI 2)] (k_I g (k_ct g ad t) ad)) (va_Qi (fun r u => r = nI (k_pd 2 (o_on t k)) ∧ u = t) (fun u U => k_H g ad u U.heap) (k_A g)) 0 0 (k_A g) := by
  refine k_met (cc := cX0_periodOf) (maxL := 2) (ret := (some .int)) (by decide) rfl (Nat.le_of_ble_eq_true rfl) (fun p e s m args below meth c Q ls hQ hx hb hr hml hts hown hlk hin hK hZ hN hW hS hl => ?_)
  have hown : s.vm.findClass RX0 = some m.cls := hown
  have hW : k_H g ad t s.heap := hW
  have hl : lv_has ls 2 [(0, .ref (ad 25 k)), (1, .int (nI 2))] := hl
  have hinX0 : ∀ w ∈ wsX00, w ∈ wsX0_periodOf := by decide +kernel
  refine lv_iload_n hx hb dX0_periodOf_0 rfl (lv_at hl 1 rfl) ?_
  refine lv_lookup (off := 35) (tgt := 36) hx hb dX0_periodOf_1 (by decide) (by decide) (by decide) ?_
  refine lv_aload_n hx hb dX0_periodOf_36 rfl (lv_at hl 0 rfl) ?_
  refine k_get (own := RX0) (C := RX0) (T := TX0) (N := 11) hx hb hts hinX0 hown hK hW (kc_25 g ad t hk) rfl 1 (by decide) (hts (.fieldLink RX0 19 "DrillVault$Copy" "madeOn" "I") (by decide +kernel)) rfl (v := .int (nI (o_on t k))) rfl dX0_periodOf_37 ?_
  refine lv_bipush (v := nI 28) hx hb dX0_periodOf_40 (by decide) ?_
  refine lv_idiv hx hb dX0_periodOf_42 (by decide) ?_
  refine k_toi (pk_div (by omega) (by decide) (by decide)) ?_
  exact k_ri hQ hx hb hr hlk hS hW ⟨rfl, rfl⟩ (Nat.le_of_ble_eq_true rfl) (Nat.le_of_ble_eq_true rfl) dX0_periodOf_43
abbrev rm_X3_promiseLatest : Room := { frames := 1, cells := 0, slots := 0, locals := 21 }
set_option maxRecDepth 100000 in
set_option maxHeartbeats 4000000 in
theorem c_X3_promiseLatest_0 (l : Launch) (hlt : l.stackTraces = false) (g : k_g) (ad : k_AD) (t : k_T) (w : Nat) (hw : w ≤ 30) (hwf : ∀ j, s_th t j = true → j < o_n t) (hon : ∀ j, j < o_n t → o_on t j ≤ 360) : Met l yX3_promiseLatest wsX3_promiseLatest rm_X3_promiseLatest (va_Pc [.ref (ad 5 0), .int (nI 0), .int (nI w)] (k_I g (k_ct g ad t) ad)) (va_Qv (fun u => u = set_o_pm t (fun j => (o_pm t) j || k_sel (s_th t) (fun j => k_pd 0 (o_on t j)) 60 w (-1) j)) (fun u U => k_H g ad u U.heap) (k_A g)) 0 0 (k_A g) := by
  refine k_met (cc := cX3_promiseLatest) (maxL := 7) (ret := none) (by decide) rfl (Nat.le_of_ble_eq_true rfl) (fun p e s m args below meth c Q ls hQ hx hb hr hml hts hown hlk hin hK hZ hN hW hS hl => ?_)
  have hown : s.vm.findClass RX3 = some m.cls := hown
  have hW : k_H g ad t s.heap := hW
  have hl : lv_has ls 7 [(0, .ref (ad 5 0)), (1, .int (nI 0)), (2, .int (nI w))] := hl
  have hinX0 : ∀ w ∈ wsX00, w ∈ wsX3_promiseLatest := by decide +kernel
  have hinX3 : ∀ w ∈ wsX30, w ∈ wsX3_promiseLatest := by decide +kernel
  refine lv_iload_n hx hb dX3_promiseLatest_0 rfl (lv_at hl 2 rfl) ?_
  refine lv_istore_n (lv' := [(3, .int (nI w)), (0, .ref (ad 5 0)), (1, .int (nI 0)), (2, .int (nI w))]) hx hb dX3_promiseLatest_1 rfl hl (by decide) rfl (fun ls hl => ?_)
  refine lv_iconst (v := (-1)) hx hb dX3_promiseLatest_2 (by decide) ?_
  refine lv_istore (lv' := [(4, .int (-1)), (3, .int (nI w)), (0, .ref (ad 5 0)), (1, .int (nI 0)), (2, .int (nI w))]) hx hb dX3_promiseLatest_3 hl (by decide) rfl (fun ls hl => ?_)
  refine lv_aload_n hx hb dX3_promiseLatest_5 rfl (lv_at hl 2 rfl) ?_
  refine k_get (own := RX3) (C := RX3) (T := TX3) (N := 5) hx hb hts hinX3 hown hK hW (kc_5 g ad t) rfl 0 (by decide) (hts (.fieldLink RX3 11 "DrillVault$Shelf" "rows" "[LDrillVault$Copy;") (by decide +kernel)) rfl (v := .ref (ad 6 0)) rfl dX3_promiseLatest_6 ?_
  refine k_alen hx hb hK hW 3 rfl (kc_6 g ad t) (v := nI 60) rfl dX3_promiseLatest_9 ?_
  refine lv_iconst (v := nI 1) hx hb dX3_promiseLatest_10 (by decide) ?_
  refine lv_isub hx hb dX3_promiseLatest_11 ?_
  refine k_toi (k_m1 _) ?_
  refine lv_istore (lv' := [(5, .int (nI 60 + (-1))), (4, .int (-1)), (3, .int (nI w)), (0, .ref (ad 5 0)), (1, .int (nI 0)), (2, .int (nI w))]) hx hb dX3_promiseLatest_12 hl (by decide) rfl (fun ls hl => ?_)
  have hloop_14 : ∀ (r : Nat) (y : Int32) (lf : Nat) (z : Int32) (Pm : Nat → Bool), (r ≤ 60) → (y = nI lf) → (lf ≤ 30) → (∀ j, (fun j => o_pm t j || k_sel (s_th t) (fun j => k_pd 0 (o_on t j)) 60 w (-1) j) j = (Pm j || k_sel (s_th t) (fun j => k_pd 0 (o_on t j)) r lf z j)) → ∀ (H : Heap) (locs : List Loc), k_H g ad (set_o_pm t Pm) H → va_S (k_A g) s.heap H locs → ∀ (ls : Array Slot), lv_has ls 7 [(0, .ref (ad 5 0)), (1, .int (nI 0)), (3, .int y), (4, .int z), (5, .int (nI r + (-1)))] → W p l e rm_X3_promiseLatest s m args below meth c H locs 0 0 Q (F0 m 14 ls []) := by
    intro r
    induction r with
    | zero =>
      intro y lf z Pm hr60 hy hlf hP H locs hW hS ls hl
      refine lv_iload hx hb dX3_promiseLatest_14 (lv_at hl 4 rfl) ?_
      refine lv_if_lt (tgt := 71) hx hb dX3_promiseLatest_16 (by decide) (fun h_16 => ?_) (fun h_16 => absurd k_n0 h_16)
      exact k_rv hQ hx hb hr hlk hS hW (by rw [show Pm = (fun j => o_pm t j || k_sel (s_th t) (fun j => k_pd 0 (o_on t j)) 60 w (-1) j) from funext fun j => ((hP j).trans (Bool.or_false _)).symm]) (Nat.le_of_ble_eq_true rfl) (Nat.le_of_ble_eq_true rfl) dX3_promiseLatest_71
    | succ r ih =>
      intro y lf z Pm hr60 hy hlf hP H locs hW hS ls hl
      rw [k_dec] at hl
      subst hy
      refine lv_iload hx hb dX3_promiseLatest_14 (lv_at hl 4 rfl) ?_
      refine k_if_lt (tgt := 71) hx hb (by omega) dX3_promiseLatest_16 (by decide) ?_
      refine lv_iload_n hx hb dX3_promiseLatest_19 rfl (lv_at hl 2 rfl) ?_
      refine k_if_le (tgt := 71) hx hb (by omega) dX3_promiseLatest_20 (by decide) (fun h_20 => ?_) (fun h_20 => ?_)
      · exact k_rv hQ hx hb hr hlk hS hW (by rw [show Pm = (fun j => o_pm t j || k_sel (s_th t) (fun j => k_pd 0 (o_on t j)) 60 w (-1) j) from funext fun j => ((hP j).trans (by rw [h_20, k_sel_0, Bool.or_false])).symm]) (Nat.le_of_ble_eq_true rfl) (Nat.le_of_ble_eq_true rfl) dX3_promiseLatest_71
      · refine lv_aload_n hx hb dX3_promiseLatest_23 rfl (lv_at hl 0 rfl) ?_
        refine k_get (own := RX3) (C := RX3) (T := TX3) (N := 5) hx hb hts hinX3 hown hK hW (kc_5 g ad (set_o_pm t Pm)) rfl 0 (by decide) (hts (.fieldLink RX3 11 "DrillVault$Shelf" "rows" "[LDrillVault$Copy;") (by decide +kernel)) rfl (v := .ref (ad 6 0)) rfl dX3_promiseLatest_24 ?_
        refine lv_iload hx hb dX3_promiseLatest_27 (lv_at hl 4 rfl) ?_
        refine k_aald hx hb hK hW (kc_6 g ad (set_o_pm t Pm)) r rfl (by omega) (by decide) dX3_promiseLatest_29 ?_
        rcases Bool.eq_false_or_eq_true (s_th t r) with hb_30 | hb_30
        · refine k_tov (y := .ref (ad 25 r)) (congrArg va_rf (if_pos hb_30)) ?_
          refine lv_astore (lv' := [(6, .ref (ad 25 r)), (0, .ref (ad 5 0)), (1, .int (nI 0)), (3, .int (nI lf)), (4, .int z), (5, .int (nI r))]) hx hb dX3_promiseLatest_30 hl (by decide) rfl (fun ls hl => ?_)
          refine lv_aload hx hb dX3_promiseLatest_32 (lv_at hl 0 rfl) ?_
          refine lv_ifnull hx hb dX3_promiseLatest_34 ?_
          refine lv_aload hx hb dX3_promiseLatest_37 (lv_at hl 0 rfl) ?_
          refine lv_iload_n hx hb dX3_promiseLatest_39 rfl (lv_at hl 2 rfl) ?_
          refine k_ci (va_runV (As := [.int (nI 0)]) (rest := []) ⟨hx, hb, hml, hown, hts⟩ (c_X0_periodOf_0 l hlt g ad (set_o_pm t Pm) r (hwf _ hb_30) (hon _ (hwf _ hb_30))) (cwV 1 hts gX3_promiseLatest_X0_periodOf rfl rfl rfl (by decide +kernel) ⟨(Nat.le_of_ble_eq_true rfl), (Nat.le_of_ble_eq_true rfl)⟩) ⟨k_blind, k_recv hK hW (kc_25 g ad (set_o_pm t Pm) (hwf _ hb_30)) rfl, fun U hU hw => ⟨rfl, k_I.of hK hZ hN hS hW hU hw⟩⟩ rfl rfl hl.1 rfl (lv_room (Nat.le_of_ble_eq_true rfl)) dX3_promiseLatest_40 ⟨(Nat.le_of_ble_eq_true rfl), (Nat.le_of_ble_eq_true rfl)⟩) hS (fun r u H locs hpo hW hS => ?_)
          obtain ⟨hr9, hu9⟩ := hpo; replace hu9 := hu9.symm; subst hu9; replace hr9 := hr9.symm; subst hr9
          refine lv_iload hx hb dX3_promiseLatest_43 (lv_at hl 4 rfl) ?_
          refine lv_icmp_eq (tgt := 65) hx hb dX3_promiseLatest_45 (by decide) (fun h_45 => ?_) (fun h_45 => ?_)
          · refine lv_iinc (v := nI r + (-1)) (lv' := [(5, .int (nI r + (-1))), (6, .ref (ad 25 r)), (0, .ref (ad 5 0)), (1, .int (nI 0)), (3, .int (nI lf)), (4, .int z)]) hx hb dX3_promiseLatest_65 hl (k := 5) rfl rfl (by decide) rfl (fun ls hl => ?_)
            refine lv_goto (tgt := 14) hx hb dX3_promiseLatest_68 (by decide) ?_
            exact ih (nI lf) lf z Pm (by omega) rfl (by omega) (fun j => (hP j).trans (by rw [k_sel_n (th := s_th t) (pd := (fun j => k_pd 0 (o_on t j))) (i := r) (fun q => q.2 h_45)])) _ _ hW hS _ (lv_sub hl [2, 3, 4, 5, 0] rfl)
          · refine lv_aload hx hb dX3_promiseLatest_48 (lv_at hl 0 rfl) ?_
            refine lv_iload_n hx hb dX3_promiseLatest_50 rfl (lv_at hl 2 rfl) ?_
            refine k_ci (va_runV (As := [.int (nI 0)]) (rest := []) ⟨hx, hb, hml, hown, hts⟩ (c_X0_periodOf_0 l hlt g ad (set_o_pm t Pm) r (hwf _ hb_30) (hon _ (hwf _ hb_30))) (cwV 1 hts gX3_promiseLatest_X0_periodOf rfl rfl rfl (by decide +kernel) ⟨(Nat.le_of_ble_eq_true rfl), (Nat.le_of_ble_eq_true rfl)⟩) ⟨k_blind, k_recv hK hW (kc_25 g ad (set_o_pm t Pm) (hwf _ hb_30)) rfl, fun U hU hw => ⟨rfl, k_I.of hK hZ hN hS hW hU hw⟩⟩ rfl rfl hl.1 rfl (lv_room (Nat.le_of_ble_eq_true rfl)) dX3_promiseLatest_51 ⟨(Nat.le_of_ble_eq_true rfl), (Nat.le_of_ble_eq_true rfl)⟩) hS (fun r u H locs hpo hW hS => ?_)
            obtain ⟨hr9, hu9⟩ := hpo; replace hu9 := hu9.symm; subst hu9; replace hr9 := hr9.symm; subst hr9
            refine lv_istore (lv' := [(4, .int (nI (k_pd 0 (o_on t r)))), (6, .ref (ad 25 r)), (0, .ref (ad 5 0)), (1, .int (nI 0)), (3, .int (nI lf)), (5, .int (nI r))]) hx hb dX3_promiseLatest_54 hl (by decide) rfl (fun ls hl => ?_)
            refine lv_aload hx hb dX3_promiseLatest_56 (lv_at hl 1 rfl) ?_
            refine lv_iconst (v := nI 1) hx hb dX3_promiseLatest_58 (by decide) ?_
            refine k_putN (host := RX4) (index := 34) (own := RX3) (C := RX0) (T := TX0) (N := 11) hx hb hts hinX0 tyX0 tyX0_ok nmX0 hown hK hW hS (kc_25 g ad (set_o_pm t Pm) (hwf _ hb_30)) rfl 8 (by decide) (by decide +kernel) rfl rfl (ty := tyX0 8) (v := .int (nI 1)) (tyX0_ok 8 (by decide)) rfl rfl (Nat.le_of_ble_eq_true rfl) dX3_promiseLatest_59 (fun H locs hW hS => ?_)
            have hW : k_H g ad (set_o_pm t (va_up Pm r true)) H := kt_o_pm (t := set_o_pm t Pm) r (hwf _ hb_30) true rfl hW
            refine lv_iinc (v := nI lf + (-1)) (lv' := [(3, .int (nI lf + (-1))), (4, .int (nI (k_pd 0 (o_on t r)))), (6, .ref (ad 25 r)), (0, .ref (ad 5 0)), (1, .int (nI 0)), (5, .int (nI r))]) hx hb dX3_promiseLatest_62 hl (k := 4) rfl rfl (by decide) rfl (fun ls hl => ?_)
            refine lv_iinc (v := nI r + (-1)) (lv' := [(5, .int (nI r + (-1))), (3, .int (nI lf + (-1))), (4, .int (nI (k_pd 0 (o_on t r)))), (6, .ref (ad 25 r)), (0, .ref (ad 5 0)), (1, .int (nI 0))]) hx hb dX3_promiseLatest_65 hl (k := 5) rfl rfl (by decide) rfl (fun ls hl => ?_)
            refine lv_goto (tgt := 14) hx hb dX3_promiseLatest_68 (by decide) ?_
            exact ih (nI lf + (-1)) (lf - 1) (nI (k_pd 0 (o_on t r))) (va_up Pm r true) (by omega) (sb_m1 h_20) (by omega) (k_sel_by hP h_20 hb_30 (fun q => h_45 q)) _ _ hW hS _ (lv_sub hl [4, 5, 1, 2, 0] rfl)
        · refine k_tov (y := .null) (congrArg va_rf (if_neg (fun q => absurd (hb_30.symm.trans q) (by decide)))) ?_
          refine lv_astoreN (lv' := [(6, .null), (0, .ref (ad 5 0)), (1, .int (nI 0)), (3, .int (nI lf)), (4, .int z), (5, .int (nI r))]) hx hb dX3_promiseLatest_30 hl (by decide) rfl (fun ls hl => ?_)
          refine lv_aloadN hx hb dX3_promiseLatest_32 (lv_at hl 0 rfl) ?_
          refine lv_ifnullN (tgt := 65) hx hb dX3_promiseLatest_34 (by decide) ?_
          refine lv_iinc (v := nI r + (-1)) (lv' := [(5, .int (nI r + (-1))), (6, .null), (0, .ref (ad 5 0)), (1, .int (nI 0)), (3, .int (nI lf)), (4, .int z)]) hx hb dX3_promiseLatest_65 hl (k := 5) rfl rfl (by decide) rfl (fun ls hl => ?_)
          refine lv_goto (tgt := 14) hx hb dX3_promiseLatest_68 (by decide) ?_
          exact ih (nI lf) lf z Pm (by omega) rfl (by omega) (fun j => (hP j).trans (by rw [k_sel_n (th := s_th t) (pd := (fun j => k_pd 0 (o_on t j))) (i := r) (fun q => by have h9 := hb_30.symm.trans q.1; cases h9)])) _ _ hW hS _ (lv_sub hl [2, 3, 4, 5, 0] rfl)
  exact hloop_14 60 (nI w) w (-1) (o_pm t) (Nat.le_refl _) rfl hw (fun j => rfl) _ _ hW hS _ (lv_sub hl [3, 4, 2, 1, 0] rfl)
set_option maxRecDepth 100000 in
set_option maxHeartbeats 4000000 in
theorem c_X3_promiseLatest_1 (l : Launch) (hlt : l.stackTraces = false) (g : k_g) (ad : k_AD) (t : k_T) (w : Nat) (hw : w ≤ 30) (hwf : ∀ j, s_th t j = true → j < o_n t) (hon : ∀ j, j < o_n t → o_on t j ≤ 360) : Met l yX3_promiseLatest wsX3_promiseLatest rm_X3_promiseLatest (va_Pc [.ref (ad 5 0), .int (nI 1), .int (nI w)] (k_I g (k_ct g ad t) ad)) (va_Qv (fun u => u = set_o_pm t (fun j => (o_pm t) j || k_sel (s_th t) (fun j => k_pd 1 (o_on t j)) 60 w (-1) j)) (fun u U => k_H g ad u U.heap) (k_A g)) 0 0 (k_A g) := by
  refine k_met (cc := cX3_promiseLatest) (maxL := 7) (ret := none) (by decide) rfl (Nat.le_of_ble_eq_true rfl) (fun p e s m args below meth c Q ls hQ hx hb hr hml hts hown hlk hin hK hZ hN hW hS hl => ?_)
  have hown : s.vm.findClass RX3 = some m.cls := hown
  have hW : k_H g ad t s.heap := hW
  have hl : lv_has ls 7 [(0, .ref (ad 5 0)), (1, .int (nI 1)), (2, .int (nI w))] := hl
  have hinX0 : ∀ w ∈ wsX00, w ∈ wsX3_promiseLatest := by decide +kernel
  have hinX3 : ∀ w ∈ wsX30, w ∈ wsX3_promiseLatest := by decide +kernel
  refine lv_iload_n hx hb dX3_promiseLatest_0 rfl (lv_at hl 2 rfl) ?_
  refine lv_istore_n (lv' := [(3, .int (nI w)), (0, .ref (ad 5 0)), (1, .int (nI 1)), (2, .int (nI w))]) hx hb dX3_promiseLatest_1 rfl hl (by decide) rfl (fun ls hl => ?_)
  refine lv_iconst (v := (-1)) hx hb dX3_promiseLatest_2 (by decide) ?_
  refine lv_istore (lv' := [(4, .int (-1)), (3, .int (nI w)), (0, .ref (ad 5 0)), (1, .int (nI 1)), (2, .int (nI w))]) hx hb dX3_promiseLatest_3 hl (by decide) rfl (fun ls hl => ?_)
  refine lv_aload_n hx hb dX3_promiseLatest_5 rfl (lv_at hl 2 rfl) ?_
  refine k_get (own := RX3) (C := RX3) (T := TX3) (N := 5) hx hb hts hinX3 hown hK hW (kc_5 g ad t) rfl 0 (by decide) (hts (.fieldLink RX3 11 "DrillVault$Shelf" "rows" "[LDrillVault$Copy;") (by decide +kernel)) rfl (v := .ref (ad 6 0)) rfl dX3_promiseLatest_6 ?_
  refine k_alen hx hb hK hW 3 rfl (kc_6 g ad t) (v := nI 60) rfl dX3_promiseLatest_9 ?_
  refine lv_iconst (v := nI 1) hx hb dX3_promiseLatest_10 (by decide) ?_
  refine lv_isub hx hb dX3_promiseLatest_11 ?_
  refine k_toi (k_m1 _) ?_
  refine lv_istore (lv' := [(5, .int (nI 60 + (-1))), (4, .int (-1)), (3, .int (nI w)), (0, .ref (ad 5 0)), (1, .int (nI 1)), (2, .int (nI w))]) hx hb dX3_promiseLatest_12 hl (by decide) rfl (fun ls hl => ?_)
  have hloop_14 : ∀ (r : Nat) (y : Int32) (lf : Nat) (z : Int32) (Pm : Nat → Bool), (r ≤ 60) → (y = nI lf) → (lf ≤ 30) → (∀ j, (fun j => o_pm t j || k_sel (s_th t) (fun j => k_pd 1 (o_on t j)) 60 w (-1) j) j = (Pm j || k_sel (s_th t) (fun j => k_pd 1 (o_on t j)) r lf z j)) → ∀ (H : Heap) (locs : List Loc), k_H g ad (set_o_pm t Pm) H → va_S (k_A g) s.heap H locs → ∀ (ls : Array Slot), lv_has ls 7 [(0, .ref (ad 5 0)), (1, .int (nI 1)), (3, .int y), (4, .int z), (5, .int (nI r + (-1)))] → W p l e rm_X3_promiseLatest s m args below meth c H locs 0 0 Q (F0 m 14 ls []) := by
    intro r
    induction r with
    | zero =>
      intro y lf z Pm hr60 hy hlf hP H locs hW hS ls hl
      refine lv_iload hx hb dX3_promiseLatest_14 (lv_at hl 4 rfl) ?_
      refine lv_if_lt (tgt := 71) hx hb dX3_promiseLatest_16 (by decide) (fun h_16 => ?_) (fun h_16 => absurd k_n0 h_16)
      exact k_rv hQ hx hb hr hlk hS hW (by rw [show Pm = (fun j => o_pm t j || k_sel (s_th t) (fun j => k_pd 1 (o_on t j)) 60 w (-1) j) from funext fun j => ((hP j).trans (Bool.or_false _)).symm]) (Nat.le_of_ble_eq_true rfl) (Nat.le_of_ble_eq_true rfl) dX3_promiseLatest_71
    | succ r ih =>
      intro y lf z Pm hr60 hy hlf hP H locs hW hS ls hl
      rw [k_dec] at hl
      subst hy
      refine lv_iload hx hb dX3_promiseLatest_14 (lv_at hl 4 rfl) ?_
      refine k_if_lt (tgt := 71) hx hb (by omega) dX3_promiseLatest_16 (by decide) ?_
      refine lv_iload_n hx hb dX3_promiseLatest_19 rfl (lv_at hl 2 rfl) ?_
      refine k_if_le (tgt := 71) hx hb (by omega) dX3_promiseLatest_20 (by decide) (fun h_20 => ?_) (fun h_20 => ?_)
      · exact k_rv hQ hx hb hr hlk hS hW (by rw [show Pm = (fun j => o_pm t j || k_sel (s_th t) (fun j => k_pd 1 (o_on t j)) 60 w (-1) j) from funext fun j => ((hP j).trans (by rw [h_20, k_sel_0, Bool.or_false])).symm]) (Nat.le_of_ble_eq_true rfl) (Nat.le_of_ble_eq_true rfl) dX3_promiseLatest_71
      · refine lv_aload_n hx hb dX3_promiseLatest_23 rfl (lv_at hl 0 rfl) ?_
        refine k_get (own := RX3) (C := RX3) (T := TX3) (N := 5) hx hb hts hinX3 hown hK hW (kc_5 g ad (set_o_pm t Pm)) rfl 0 (by decide) (hts (.fieldLink RX3 11 "DrillVault$Shelf" "rows" "[LDrillVault$Copy;") (by decide +kernel)) rfl (v := .ref (ad 6 0)) rfl dX3_promiseLatest_24 ?_
        refine lv_iload hx hb dX3_promiseLatest_27 (lv_at hl 4 rfl) ?_
        refine k_aald hx hb hK hW (kc_6 g ad (set_o_pm t Pm)) r rfl (by omega) (by decide) dX3_promiseLatest_29 ?_
        rcases Bool.eq_false_or_eq_true (s_th t r) with hb_30 | hb_30
        · refine k_tov (y := .ref (ad 25 r)) (congrArg va_rf (if_pos hb_30)) ?_
          refine lv_astore (lv' := [(6, .ref (ad 25 r)), (0, .ref (ad 5 0)), (1, .int (nI 1)), (3, .int (nI lf)), (4, .int z), (5, .int (nI r))]) hx hb dX3_promiseLatest_30 hl (by decide) rfl (fun ls hl => ?_)
          refine lv_aload hx hb dX3_promiseLatest_32 (lv_at hl 0 rfl) ?_
          refine lv_ifnull hx hb dX3_promiseLatest_34 ?_
          refine lv_aload hx hb dX3_promiseLatest_37 (lv_at hl 0 rfl) ?_
          refine lv_iload_n hx hb dX3_promiseLatest_39 rfl (lv_at hl 2 rfl) ?_
          refine k_ci (va_runV (As := [.int (nI 1)]) (rest := []) ⟨hx, hb, hml, hown, hts⟩ (c_X0_periodOf_1 l hlt g ad (set_o_pm t Pm) r (hwf _ hb_30) (hon _ (hwf _ hb_30))) (cwV 1 hts gX3_promiseLatest_X0_periodOf rfl rfl rfl (by decide +kernel) ⟨(Nat.le_of_ble_eq_true rfl), (Nat.le_of_ble_eq_true rfl)⟩) ⟨k_blind, k_recv hK hW (kc_25 g ad (set_o_pm t Pm) (hwf _ hb_30)) rfl, fun U hU hw => ⟨rfl, k_I.of hK hZ hN hS hW hU hw⟩⟩ rfl rfl hl.1 rfl (lv_room (Nat.le_of_ble_eq_true rfl)) dX3_promiseLatest_40 ⟨(Nat.le_of_ble_eq_true rfl), (Nat.le_of_ble_eq_true rfl)⟩) hS (fun r u H locs hpo hW hS => ?_)
          obtain ⟨hr9, hu9⟩ := hpo; replace hu9 := hu9.symm; subst hu9; replace hr9 := hr9.symm; subst hr9
          refine lv_iload hx hb dX3_promiseLatest_43 (lv_at hl 4 rfl) ?_
          refine lv_icmp_eq (tgt := 65) hx hb dX3_promiseLatest_45 (by decide) (fun h_45 => ?_) (fun h_45 => ?_)
          · refine lv_iinc (v := nI r + (-1)) (lv' := [(5, .int (nI r + (-1))), (6, .ref (ad 25 r)), (0, .ref (ad 5 0)), (1, .int (nI 1)), (3, .int (nI lf)), (4, .int z)]) hx hb dX3_promiseLatest_65 hl (k := 5) rfl rfl (by decide) rfl (fun ls hl => ?_)
            refine lv_goto (tgt := 14) hx hb dX3_promiseLatest_68 (by decide) ?_
            exact ih (nI lf) lf z Pm (by omega) rfl (by omega) (fun j => (hP j).trans (by rw [k_sel_n (th := s_th t) (pd := (fun j => k_pd 1 (o_on t j))) (i := r) (fun q => q.2 h_45)])) _ _ hW hS _ (lv_sub hl [2, 3, 4, 5, 0] rfl)
          · refine lv_aload hx hb dX3_promiseLatest_48 (lv_at hl 0 rfl) ?_
            refine lv_iload_n hx hb dX3_promiseLatest_50 rfl (lv_at hl 2 rfl) ?_
            refine k_ci (va_runV (As := [.int (nI 1)]) (rest := []) ⟨hx, hb, hml, hown, hts⟩ (c_X0_periodOf_1 l hlt g ad (set_o_pm t Pm) r (hwf _ hb_30) (hon _ (hwf _ hb_30))) (cwV 1 hts gX3_promiseLatest_X0_periodOf rfl rfl rfl (by decide +kernel) ⟨(Nat.le_of_ble_eq_true rfl), (Nat.le_of_ble_eq_true rfl)⟩) ⟨k_blind, k_recv hK hW (kc_25 g ad (set_o_pm t Pm) (hwf _ hb_30)) rfl, fun U hU hw => ⟨rfl, k_I.of hK hZ hN hS hW hU hw⟩⟩ rfl rfl hl.1 rfl (lv_room (Nat.le_of_ble_eq_true rfl)) dX3_promiseLatest_51 ⟨(Nat.le_of_ble_eq_true rfl), (Nat.le_of_ble_eq_true rfl)⟩) hS (fun r u H locs hpo hW hS => ?_)
            obtain ⟨hr9, hu9⟩ := hpo; replace hu9 := hu9.symm; subst hu9; replace hr9 := hr9.symm; subst hr9
            refine lv_istore (lv' := [(4, .int (nI (k_pd 1 (o_on t r)))), (6, .ref (ad 25 r)), (0, .ref (ad 5 0)), (1, .int (nI 1)), (3, .int (nI lf)), (5, .int (nI r))]) hx hb dX3_promiseLatest_54 hl (by decide) rfl (fun ls hl => ?_)
            refine lv_aload hx hb dX3_promiseLatest_56 (lv_at hl 1 rfl) ?_
            refine lv_iconst (v := nI 1) hx hb dX3_promiseLatest_58 (by decide) ?_
            refine k_putN (host := RX4) (index := 34) (own := RX3) (C := RX0) (T := TX0) (N := 11) hx hb hts hinX0 tyX0 tyX0_ok nmX0 hown hK hW hS (kc_25 g ad (set_o_pm t Pm) (hwf _ hb_30)) rfl 8 (by decide) (by decide +kernel) rfl rfl (ty := tyX0 8) (v := .int (nI 1)) (tyX0_ok 8 (by decide)) rfl rfl (Nat.le_of_ble_eq_true rfl) dX3_promiseLatest_59 (fun H locs hW hS => ?_)
            have hW : k_H g ad (set_o_pm t (va_up Pm r true)) H := kt_o_pm (t := set_o_pm t Pm) r (hwf _ hb_30) true rfl hW
            refine lv_iinc (v := nI lf + (-1)) (lv' := [(3, .int (nI lf + (-1))), (4, .int (nI (k_pd 1 (o_on t r)))), (6, .ref (ad 25 r)), (0, .ref (ad 5 0)), (1, .int (nI 1)), (5, .int (nI r))]) hx hb dX3_promiseLatest_62 hl (k := 4) rfl rfl (by decide) rfl (fun ls hl => ?_)
            refine lv_iinc (v := nI r + (-1)) (lv' := [(5, .int (nI r + (-1))), (3, .int (nI lf + (-1))), (4, .int (nI (k_pd 1 (o_on t r)))), (6, .ref (ad 25 r)), (0, .ref (ad 5 0)), (1, .int (nI 1))]) hx hb dX3_promiseLatest_65 hl (k := 5) rfl rfl (by decide) rfl (fun ls hl => ?_)
            refine lv_goto (tgt := 14) hx hb dX3_promiseLatest_68 (by decide) ?_
            exact ih (nI lf + (-1)) (lf - 1) (nI (k_pd 1 (o_on t r))) (va_up Pm r true) (by omega) (sb_m1 h_20) (by omega) (k_sel_by hP h_20 hb_30 (fun q => h_45 q)) _ _ hW hS _ (lv_sub hl [4, 5, 1, 2, 0] rfl)
        · refine k_tov (y := .null) (congrArg va_rf (if_neg (fun q => absurd (hb_30.symm.trans q) (by decide)))) ?_
          refine lv_astoreN (lv' := [(6, .null), (0, .ref (ad 5 0)), (1, .int (nI 1)), (3, .int (nI lf)), (4, .int z), (5, .int (nI r))]) hx hb dX3_promiseLatest_30 hl (by decide) rfl (fun ls hl => ?_)
          refine lv_aloadN hx hb dX3_promiseLatest_32 (lv_at hl 0 rfl) ?_
          refine lv_ifnullN (tgt := 65) hx hb dX3_promiseLatest_34 (by decide) ?_
          refine lv_iinc (v := nI r + (-1)) (lv' := [(5, .int (nI r + (-1))), (6, .null), (0, .ref (ad 5 0)), (1, .int (nI 1)), (3, .int (nI lf)), (4, .int z)]) hx hb dX3_promiseLatest_65 hl (k := 5) rfl rfl (by decide) rfl (fun ls hl => ?_)
          refine lv_goto (tgt := 14) hx hb dX3_promiseLatest_68 (by decide) ?_
          exact ih (nI lf) lf z Pm (by omega) rfl (by omega) (fun j => (hP j).trans (by rw [k_sel_n (th := s_th t) (pd := (fun j => k_pd 1 (o_on t j))) (i := r) (fun q => by have h9 := hb_30.symm.trans q.1; cases h9)])) _ _ hW hS _ (lv_sub hl [2, 3, 4, 5, 0] rfl)
  exact hloop_14 60 (nI w) w (-1) (o_pm t) (Nat.le_refl _) rfl hw (fun j => rfl) _ _ hW hS _ (lv_sub hl [3, 4, 2, 1, 0] rfl)
set_option maxRecDepth 100000 in
set_option maxHeartbeats 4000000 in
theorem c_X3_promiseLatest_2 (l : Launch) (hlt : l.stackTraces = false) (g : k_g) (ad : k_AD) (t : k_T) (w : Nat) (hw : w ≤ 30) (hwf : ∀ j, s_th t j = true → j < o_n t) (hon : ∀ j, j < o_n t → o_on t j ≤ 360) : Met l yX3_promiseLatest wsX3_promiseLatest rm_X3_promiseLatest (va_Pc [.ref (ad 5 0), .int (nI 2), .int (nI w)] (k_I g (k_ct g ad t) ad)) (va_Qv (fun u => u = set_o_pm t (fun j => (o_pm t) j || k_sel (s_th t) (fun j => k_pd 2 (o_on t j)) 60 w (-1) j)) (fun u U => k_H g ad u U.heap) (k_A g)) 0 0 (k_A g) := by
  refine k_met (cc := cX3_promiseLatest) (maxL := 7) (ret := none) (by decide) rfl (Nat.le_of_ble_eq_true rfl) (fun p e s m args below meth c Q ls hQ hx hb hr hml hts hown hlk hin hK hZ hN hW hS hl => ?_)
  have hown : s.vm.findClass RX3 = some m.cls := hown
  have hW : k_H g ad t s.heap := hW
  have hl : lv_has ls 7 [(0, .ref (ad 5 0)), (1, .int (nI 2)), (2, .int (nI w))] := hl
  have hinX0 : ∀ w ∈ wsX00, w ∈ wsX3_promiseLatest := by decide +kernel
  have hinX3 : ∀ w ∈ wsX30, w ∈ wsX3_promiseLatest := by decide +kernel
  refine lv_iload_n hx hb dX3_promiseLatest_0 rfl (lv_at hl 2 rfl) ?_
  refine lv_istore_n (lv' := [(3, .int (nI w)), (0, .ref (ad 5 0)), (1, .int (nI 2)), (2, .int (nI w))]) hx hb dX3_promiseLatest_1 rfl hl (by decide) rfl (fun ls hl => ?_)
  refine lv_iconst (v := (-1)) hx hb dX3_promiseLatest_2 (by decide) ?_
  refine lv_istore (lv' := [(4, .int (-1)), (3, .int (nI w)), (0, .ref (ad 5 0)), (1, .int (nI 2)), (2, .int (nI w))]) hx hb dX3_promiseLatest_3 hl (by decide) rfl (fun ls hl => ?_)
  refine lv_aload_n hx hb dX3_promiseLatest_5 rfl (lv_at hl 2 rfl) ?_
  refine k_get (own := RX3) (C := RX3) (T := TX3) (N := 5) hx hb hts hinX3 hown hK hW (kc_5 g ad t) rfl 0 (by decide) (hts (.fieldLink RX3 11 "DrillVault$Shelf" "rows" "[LDrillVault$Copy;") (by decide +kernel)) rfl (v := .ref (ad 6 0)) rfl dX3_promiseLatest_6 ?_
  refine k_alen hx hb hK hW 3 rfl (kc_6 g ad t) (v := nI 60) rfl dX3_promiseLatest_9 ?_
  refine lv_iconst (v := nI 1) hx hb dX3_promiseLatest_10 (by decide) ?_
  refine lv_isub hx hb dX3_promiseLatest_11 ?_
  refine k_toi (k_m1 _) ?_
  refine lv_istore (lv' := [(5, .int (nI 60 + (-1))), (4, .int (-1)), (3, .int (nI w)), (0, .ref (ad 5 0)), (1, .int (nI 2)), (2, .int (nI w))]) hx hb dX3_promiseLatest_12 hl (by decide) rfl (fun ls hl => ?_)
  have hloop_14 : ∀ (r : Nat) (y : Int32) (lf : Nat) (z : Int32) (Pm : Nat → Bool), (r ≤ 60) → (y = nI lf) → (lf ≤ 30) → (∀ j, (fun j => o_pm t j || k_sel (s_th t) (fun j => k_pd 2 (o_on t j)) 60 w (-1) j) j = (Pm j || k_sel (s_th t) (fun j => k_pd 2 (o_on t j)) r lf z j)) → ∀ (H : Heap) (locs : List Loc), k_H g ad (set_o_pm t Pm) H → va_S (k_A g) s.heap H locs → ∀ (ls : Array Slot), lv_has ls 7 [(0, .ref (ad 5 0)), (1, .int (nI 2)), (3, .int y), (4, .int z), (5, .int (nI r + (-1)))] → W p l e rm_X3_promiseLatest s m args below meth c H locs 0 0 Q (F0 m 14 ls []) := by
    intro r
    induction r with
    | zero =>
      intro y lf z Pm hr60 hy hlf hP H locs hW hS ls hl
      refine lv_iload hx hb dX3_promiseLatest_14 (lv_at hl 4 rfl) ?_
      refine lv_if_lt (tgt := 71) hx hb dX3_promiseLatest_16 (by decide) (fun h_16 => ?_) (fun h_16 => absurd k_n0 h_16)
      exact k_rv hQ hx hb hr hlk hS hW (by rw [show Pm = (fun j => o_pm t j || k_sel (s_th t) (fun j => k_pd 2 (o_on t j)) 60 w (-1) j) from funext fun j => ((hP j).trans (Bool.or_false _)).symm]) (Nat.le_of_ble_eq_true rfl) (Nat.le_of_ble_eq_true rfl) dX3_promiseLatest_71
    | succ r ih =>
      intro y lf z Pm hr60 hy hlf hP H locs hW hS ls hl
      rw [k_dec] at hl
      subst hy
      refine lv_iload hx hb dX3_promiseLatest_14 (lv_at hl 4 rfl) ?_
      refine k_if_lt (tgt := 71) hx hb (by omega) dX3_promiseLatest_16 (by decide) ?_
      refine lv_iload_n hx hb dX3_promiseLatest_19 rfl (lv_at hl 2 rfl) ?_
      refine k_if_le (tgt := 71) hx hb (by omega) dX3_promiseLatest_20 (by decide) (fun h_20 => ?_) (fun h_20 => ?_)
      · exact k_rv hQ hx hb hr hlk hS hW (by rw [show Pm = (fun j => o_pm t j || k_sel (s_th t) (fun j => k_pd 2 (o_on t j)) 60 w (-1) j) from funext fun j => ((hP j).trans (by rw [h_20, k_sel_0, Bool.or_false])).symm]) (Nat.le_of_ble_eq_true rfl) (Nat.le_of_ble_eq_true rfl) dX3_promiseLatest_71
      · refine lv_aload_n hx hb dX3_promiseLatest_23 rfl (lv_at hl 0 rfl) ?_
        refine k_get (own := RX3) (C := RX3) (T := TX3) (N := 5) hx hb hts hinX3 hown hK hW (kc_5 g ad (set_o_pm t Pm)) rfl 0 (by decide) (hts (.fieldLink RX3 11 "DrillVault$Shelf" "rows" "[LDrillVault$Copy;") (by decide +kernel)) rfl (v := .ref (ad 6 0)) rfl dX3_promiseLatest_24 ?_
        refine lv_iload hx hb dX3_promiseLatest_27 (lv_at hl 4 rfl) ?_
        refine k_aald hx hb hK hW (kc_6 g ad (set_o_pm t Pm)) r rfl (by omega) (by decide) dX3_promiseLatest_29 ?_
        rcases Bool.eq_false_or_eq_true (s_th t r) with hb_30 | hb_30
        · refine k_tov (y := .ref (ad 25 r)) (congrArg va_rf (if_pos hb_30)) ?_
          refine lv_astore (lv' := [(6, .ref (ad 25 r)), (0, .ref (ad 5 0)), (1, .int (nI 2)), (3, .int (nI lf)), (4, .int z), (5, .int (nI r))]) hx hb dX3_promiseLatest_30 hl (by decide) rfl (fun ls hl => ?_)
          refine lv_aload hx hb dX3_promiseLatest_32 (lv_at hl 0 rfl) ?_
          refine lv_ifnull hx hb dX3_promiseLatest_34 ?_
          refine lv_aload hx hb dX3_promiseLatest_37 (lv_at hl 0 rfl) ?_
          refine lv_iload_n hx hb dX3_promiseLatest_39 rfl (lv_at hl 2 rfl) ?_
          refine k_ci (va_runV (As := [.int (nI 2)]) (rest := []) ⟨hx, hb, hml, hown, hts⟩ (c_X0_periodOf_2 l hlt g ad (set_o_pm t Pm) r (hwf _ hb_30) (hon _ (hwf _ hb_30))) (cwV 1 hts gX3_promiseLatest_X0_periodOf rfl rfl rfl (by decide +kernel) ⟨(Nat.le_of_ble_eq_true rfl), (Nat.le_of_ble_eq_true rfl)⟩) ⟨k_blind, k_recv hK hW (kc_25 g ad (set_o_pm t Pm) (hwf _ hb_30)) rfl, fun U hU hw => ⟨rfl, k_I.of hK hZ hN hS hW hU hw⟩⟩ rfl rfl hl.1 rfl (lv_room (Nat.le_of_ble_eq_true rfl)) dX3_promiseLatest_40 ⟨(Nat.le_of_ble_eq_true rfl), (Nat.le_of_ble_eq_true rfl)⟩) hS (fun r u H locs hpo hW hS => ?_)
          obtain ⟨hr9, hu9⟩ := hpo; replace hu9 := hu9.symm; subst hu9; replace hr9 := hr9.symm; subst hr9
          refine lv_iload hx hb dX3_promiseLatest_43 (lv_at hl 4 rfl) ?_
          refine lv_icmp_eq (tgt := 65) hx hb dX3_promiseLatest_45 (by decide) (fun h_45 => ?_) (fun h_45 => ?_)
          · refine lv_iinc (v := nI r + (-1)) (lv' := [(5, .int (nI r + (-1))), (6, .ref (ad 25 r)), (0, .ref (ad 5 0)), (1, .int (nI 2)), (3, .int (nI lf)), (4, .int z)]) hx hb dX3_promiseLatest_65 hl (k := 5) rfl rfl (by decide) rfl (fun ls hl => ?_)
            refine lv_goto (tgt := 14) hx hb dX3_promiseLatest_68 (by decide) ?_
            exact ih (nI lf) lf z Pm (by omega) rfl (by omega) (fun j => (hP j).trans (by rw [k_sel_n (th := s_th t) (pd := (fun j => k_pd 2 (o_on t j))) (i := r) (fun q => q.2 h_45)])) _ _ hW hS _ (lv_sub hl [2, 3, 4, 5, 0] rfl)
          · refine lv_aload hx hb dX3_promiseLatest_48 (lv_at hl 0 rfl) ?_
            refine lv_iload_n hx hb dX3_promiseLatest_50 rfl (lv_at hl 2 rfl) ?_
            refine k_ci (va_runV (As := [.int (nI 2)]) (rest := []) ⟨hx, hb, hml, hown, hts⟩ (c_X0_periodOf_2 l hlt g ad (set_o_pm t Pm) r (hwf _ hb_30) (hon _ (hwf _ hb_30))) (cwV 1 hts gX3_promiseLatest_X0_periodOf rfl rfl rfl (by decide +kernel) ⟨(Nat.le_of_ble_eq_true rfl), (Nat.le_of_ble_eq_true rfl)⟩) ⟨k_blind, k_recv hK hW (kc_25 g ad (set_o_pm t Pm) (hwf _ hb_30)) rfl, fun U hU hw => ⟨rfl, k_I.of hK hZ hN hS hW hU hw⟩⟩ rfl rfl hl.1 rfl (lv_room (Nat.le_of_ble_eq_true rfl)) dX3_promiseLatest_51 ⟨(Nat.le_of_ble_eq_true rfl), (Nat.le_of_ble_eq_true rfl)⟩) hS (fun r u H locs hpo hW hS => ?_)
            obtain ⟨hr9, hu9⟩ := hpo; replace hu9 := hu9.symm; subst hu9; replace hr9 := hr9.symm; subst hr9
            refine lv_istore (lv' := [(4, .int (nI (k_pd 2 (o_on t r)))), (6, .ref (ad 25 r)), (0, .ref (ad 5 0)), (1, .int (nI 2)), (3, .int (nI lf)), (5, .int (nI r))]) hx hb dX3_promiseLatest_54 hl (by decide) rfl (fun ls hl => ?_)
            refine lv_aload hx hb dX3_promiseLatest_56 (lv_at hl 1 rfl) ?_
            refine lv_iconst (v := nI 1) hx hb dX3_promiseLatest_58 (by decide) ?_
            refine k_putN (host := RX4) (index := 34) (own := RX3) (C := RX0) (T := TX0) (N := 11) hx hb hts hinX0 tyX0 tyX0_ok nmX0 hown hK hW hS (kc_25 g ad (set_o_pm t Pm) (hwf _ hb_30)) rfl 8 (by decide) (by decide +kernel) rfl rfl (ty := tyX0 8) (v := .int (nI 1)) (tyX0_ok 8 (by decide)) rfl rfl (Nat.le_of_ble_eq_true rfl) dX3_promiseLatest_59 (fun H locs hW hS => ?_)
            have hW : k_H g ad (set_o_pm t (va_up Pm r true)) H := kt_o_pm (t := set_o_pm t Pm) r (hwf _ hb_30) true rfl hW
            refine lv_iinc (v := nI lf + (-1)) (lv' := [(3, .int (nI lf + (-1))), (4, .int (nI (k_pd 2 (o_on t r)))), (6, .ref (ad 25 r)), (0, .ref (ad 5 0)), (1, .int (nI 2)), (5, .int (nI r))]) hx hb dX3_promiseLatest_62 hl (k := 4) rfl rfl (by decide) rfl (fun ls hl => ?_)
            refine lv_iinc (v := nI r + (-1)) (lv' := [(5, .int (nI r + (-1))), (3, .int (nI lf + (-1))), (4, .int (nI (k_pd 2 (o_on t r)))), (6, .ref (ad 25 r)), (0, .ref (ad 5 0)), (1, .int (nI 2))]) hx hb dX3_promiseLatest_65 hl (k := 5) rfl rfl (by decide) rfl (fun ls hl => ?_)
            refine lv_goto (tgt := 14) hx hb dX3_promiseLatest_68 (by decide) ?_
            exact ih (nI lf + (-1)) (lf - 1) (nI (k_pd 2 (o_on t r))) (va_up Pm r true) (by omega) (sb_m1 h_20) (by omega) (k_sel_by hP h_20 hb_30 (fun q => h_45 q)) _ _ hW hS _ (lv_sub hl [4, 5, 1, 2, 0] rfl)
        · refine k_tov (y := .null) (congrArg va_rf (if_neg (fun q => absurd (hb_30.symm.trans q) (by decide)))) ?_
          refine lv_astoreN (lv' := [(6, .null), (0, .ref (ad 5 0)), (1, .int (nI 2)), (3, .int (nI lf)), (4, .int z), (5, .int (nI r))]) hx hb dX3_promiseLatest_30 hl (by decide) rfl (fun ls hl => ?_)
          refine lv_aloadN hx hb dX3_promiseLatest_32 (lv_at hl 0 rfl) ?_
          refine lv_ifnullN (tgt := 65) hx hb dX3_promiseLatest_34 (by decide) ?_
          refine lv_iinc (v := nI r + (-1)) (lv' := [(5, .int (nI r + (-1))), (6, .null), (0, .ref (ad 5 0)), (1, .int (nI 2)), (3, .int (nI lf)), (4, .int z)]) hx hb dX3_promiseLatest_65 hl (k := 5) rfl rfl (by decide) rfl (fun ls hl => ?_)
          refine lv_goto (tgt := 14) hx hb dX3_promiseLatest_68 (by decide) ?_
          exact ih (nI lf) lf z Pm (by omega) rfl (by omega) (fun j => (hP j).trans (by rw [k_sel_n (th := s_th t) (pd := (fun j => k_pd 2 (o_on t j))) (i := r) (fun q => by have h9 := hb_30.symm.trans q.1; cases h9)])) _ _ hW hS _ (lv_sub hl [2, 3, 4, 5, 0] rfl)
  exact hloop_14 60 (nI w) w (-1) (o_pm t) (Nat.le_refl _) rfl hw (fun j => rfl) _ _ hW hS _ (lv_sub hl [3, 4, 2, 1, 0] rfl)
abbrev rm_X3_markGenerations : Room := { frames := 2, cells := 0, slots := 0, locals := 47 }
set_option maxRecDepth 100000 in
set_option maxHeartbeats 4000000 in
theorem c_X3_markGenerations (l : Launch) (hlt : l.stackTraces = false) (g : k_g) (ad : k_AD) (t : k_T) (hwf : ∀ j, s_th t j = true → j < o_n t) (hbs : ∀ k b, k < o_n t → o_b t k = some b → b < o_n t ∧ b < k) (hth : ∀ j b, s_th t j = true → o_b t j = some b → s_th t b = true) (hn60 : o_n t ≤ 60) (hon : ∀ j, j < o_n t → o_on t j ≤ 360) (hr1 : s_r1 t ≤ 30) (hr2 : s_r2 t ≤ 30) (hr3 : s_r3 t ≤ 30) : Met l yX3_markGenerations wsX3_markGenerations rm_X3_markGenerations (va_Pc [.ref (ad 5 0)] (k_I g (k_ct g ad t) ad)) (va_Qv (fun u => u = set_o_nd (set_o_pm t (k_Pm (s_th t) (o_pm t) (o_on t) (s_r1 t) (s_r2 t) (s_r3 t))) (k_Nm (s_th t) (o_nd t) (k_Pm (s_th t) (o_pm t) (o_on t) (s_r1 t) (s_r2 t) (s_r3 t)) (o_b t))) (fun u U => k_H g ad u U.heap) (k_A g)) 0 0 (k_A g) := by
  refine k_met (cc := cX3_markGenerations) (maxL := 5) (ret := none) (by decide) rfl (Nat.le_of_ble_eq_true rfl) (fun p e s m args below meth c Q ls hQ hx hb hr hml hts hown hlk hin hK hZ hN hW hS hl => ?_)
  have hown : s.vm.findClass RX3 = some m.cls := hown
  have hW : k_H g ad t s.heap := hW
  have hl : lv_has ls 5 [(0, .ref (ad 5 0))] := hl
  have hinX0 : ∀ w ∈ wsX00, w ∈ wsX3_markGenerations := by decide +kernel
  have hinX3 : ∀ w ∈ wsX30, w ∈ wsX3_markGenerations := by decide +kernel
  refine lv_aload_n hx hb dX3_markGenerations_0 rfl (lv_at hl 0 rfl) ?_
  refine k_get (own := RX3) (C := RX3) (T := TX3) (N := 5) hx hb hts hinX3 hown hK hW (kc_5 g ad t) rfl 0 (by decide) (hts (.fieldLink RX3 11 "DrillVault$Shelf" "rows" "[LDrillVault$Copy;") (by decide +kernel)) rfl (v := .ref (ad 6 0)) rfl dX3_markGenerations_1 ?_
  refine lv_astore_n (lv' := [(1, .ref (ad 6 0)), (0, .ref (ad 5 0))]) hx hb dX3_markGenerations_4 rfl hl (by decide) rfl (fun ls hl => ?_)
  refine lv_aload_n hx hb dX3_markGenerations_5 rfl (lv_at hl 0 rfl) ?_
  refine k_alen hx hb hK hW 3 rfl (kc_6 g ad t) (v := nI 60) rfl dX3_markGenerations_6 ?_
  refine lv_istore_n (lv' := [(2, .int (nI 60)), (1, .ref (ad 6 0)), (0, .ref (ad 5 0))]) hx hb dX3_markGenerations_7 rfl hl (by decide) rfl (fun ls hl => ?_)
  refine lv_iconst (v := nI 0) hx hb dX3_markGenerations_8 (by decide) ?_
  refine lv_istore_n (lv' := [(3, .int (nI 0)), (2, .int (nI 60)), (1, .ref (ad 6 0)), (0, .ref (ad 5 0))]) hx hb dX3_markGenerations_9 rfl hl (by decide) rfl (fun ls hl => ?_)
  have hloop_10 : ∀ (n : Nat) (i : Nat) (P1 : Nat → Bool) (N1 : Nat → Bool), (60 < i + n) → (i ≤ 60) → (∀ j, P1 j = if (decide (j < i) && s_th t j) = true then (fun _ => false) j else o_pm t j) → (∀ j, N1 j = if (decide (j < i) && s_th t j) = true then (fun _ => false) j else o_nd t j) → ∀ (H : Heap) (locs : List Loc), k_H g ad (set_o_nd (set_o_pm t P1) N1) H → va_S (k_A g) s.heap H locs → ∀ (ls : Array Slot), lv_has ls 5 [(0, .ref (ad 5 0)), (1, .ref (ad 6 0)), (2, .int (nI 60)), (3, .int (nI i))] → W p l e rm_X3_markGenerations s m args below meth c H locs 0 0 Q (F0 m 10 ls []) := by
    intro n
    induction n with
    | zero =>
      intro i P1 N1 hfu hi hP1 hN1
      exact absurd hfu (by omega)
    | succ n ih =>
      intro i P1 N1 hfu hi hP1 hN1 H locs hW hS ls hl
      refine lv_iload_n hx hb dX3_markGenerations_10 rfl (lv_at hl 3 rfl) ?_
      refine lv_iload_n hx hb dX3_markGenerations_11 rfl (lv_at hl 2 rfl) ?_
      refine k_icmp_ge (tgt := 43) hx hb (a := i) (b := 60) (by omega) (by decide) dX3_markGenerations_12 (by decide) (fun h_12 => ?_) (fun h_12 => ?_)
      · have hPe := k_rs_e hP1 hwf (show o_n t ≤ i by omega); have hNe := k_rs_e hN1 hwf (show o_n t ≤ i by omega)
        subst hPe; subst hNe
        have hW : k_H g ad (set_o_nd (set_o_pm t (fun j => if s_th t j = true then false else o_pm t j)) (k_N0 (s_th t) (o_nd t))) H := hW
        refine lv_aload_n hx hb dX3_markGenerations_43 rfl (lv_at hl 0 rfl) ?_
        refine lv_iconst (v := nI 0) hx hb dX3_markGenerations_44 (by decide) ?_
        refine lv_aload_n hx hb dX3_markGenerations_45 rfl (lv_at hl 0 rfl) ?_
        refine k_get (own := RX3) (C := RX3) (T := TX3) (N := 5) hx hb hts hinX3 hown hK hW (kc_5 g ad (set_o_nd (set_o_pm t (fun j => if s_th t j = true then false else o_pm t j)) (k_N0 (s_th t) (o_nd t)))) rfl 2 (by decide) (hts (.fieldLink RX3 17 "DrillVault$Shelf" "daysRule" "I") (by decide +kernel)) rfl (v := .int (nI (s_r1 t))) rfl dX3_markGenerations_46 ?_
        refine k_cv (va_runV (As := [.int (nI 0), .int (nI (s_r1 t))]) (rest := []) ⟨hx, hb, hml, hown, hts⟩ (c_X3_promiseLatest_0 l hlt g ad (set_o_nd (set_o_pm t (fun j => if s_th t j = true then false else o_pm t j)) (k_N0 (s_th t) (o_nd t))) (s_r1 t) hr1 hwf hon) (cwV 2 hts gX3_markGenerations_X3_promiseLatest rfl rfl rfl (by decide +kernel) ⟨(Nat.le_of_ble_eq_true rfl), (Nat.le_of_ble_eq_true rfl)⟩) ⟨k_blind, k_recv hK hW (kc_5 g ad (set_o_nd (set_o_pm t (fun j => if s_th t j = true then false else o_pm t j)) (k_N0 (s_th t) (o_nd t)))) rfl, fun U hU hw => ⟨rfl, k_I.of hK hZ hN hS hW hU hw⟩⟩ rfl rfl hl.1 rfl (lv_room (Nat.le_of_ble_eq_true rfl)) dX3_markGenerations_49 ⟨(Nat.le_of_ble_eq_true rfl), (Nat.le_of_ble_eq_true rfl)⟩) hS (fun u H locs hpo hW hS => ?_)
        have hu9 := hpo.symm; subst hu9
        have hW : k_H g ad (set_o_pm (set_o_nd t (k_N0 (s_th t) (o_nd t))) (fun j => (fun j => if s_th t j = true then false else o_pm t j) j || k_sel (s_th t) (fun j => k_pd 0 (o_on t j)) 60 (s_r1 t) (-1) j)) H := hW
        refine lv_aload_n hx hb dX3_markGenerations_52 rfl (lv_at hl 0 rfl) ?_
        refine lv_iconst (v := nI 1) hx hb dX3_markGenerations_53 (by decide) ?_
        refine lv_aload_n hx hb dX3_markGenerations_54 rfl (lv_at hl 0 rfl) ?_
        refine k_get (own := RX3) (C := RX3) (T := TX3) (N := 5) hx hb hts hinX3 hown hK hW (kc_5 g ad (set_o_pm (set_o_nd t (k_N0 (s_th t) (o_nd t))) (fun j => (fun j => if s_th t j = true then false else o_pm t j) j || k_sel (s_th t) (fun j => k_pd 0 (o_on t j)) 60 (s_r1 t) (-1) j))) rfl 3 (by decide) (hts (.fieldLink RX3 21 "DrillVault$Shelf" "weeksRule" "I") (by decide +kernel)) rfl (v := .int (nI (s_r2 t))) rfl dX3_markGenerations_55 ?_
        refine k_cv (va_runV (As := [.int (nI 1), .int (nI (s_r2 t))]) (rest := []) ⟨hx, hb, hml, hown, hts⟩ (c_X3_promiseLatest_1 l hlt g ad (set_o_pm (set_o_nd t (k_N0 (s_th t) (o_nd t))) (fun j => (fun j => if s_th t j = true then false else o_pm t j) j || k_sel (s_th t) (fun j => k_pd 0 (o_on t j)) 60 (s_r1 t) (-1) j)) (s_r2 t) hr2 hwf hon) (cwV 2 hts gX3_markGenerations_X3_promiseLatest rfl rfl rfl (by decide +kernel) ⟨(Nat.le_of_ble_eq_true rfl), (Nat.le_of_ble_eq_true rfl)⟩) ⟨k_blind, k_recv hK hW (kc_5 g ad (set_o_pm (set_o_nd t (k_N0 (s_th t) (o_nd t))) (fun j => (fun j => if s_th t j = true then false else o_pm t j) j || k_sel (s_th t) (fun j => k_pd 0 (o_on t j)) 60 (s_r1 t) (-1) j))) rfl, fun U hU hw => ⟨rfl, k_I.of hK hZ hN hS hW hU hw⟩⟩ rfl rfl hl.1 rfl (lv_room (Nat.le_of_ble_eq_true rfl)) dX3_markGenerations_58 ⟨(Nat.le_of_ble_eq_true rfl), (Nat.le_of_ble_eq_true rfl)⟩) hS (fun u H locs hpo hW hS => ?_)
        have hu9 := hpo.symm; subst hu9
        have hW : k_H g ad (set_o_pm (set_o_nd t (k_N0 (s_th t) (o_nd t))) (fun j => (fun j => (fun j => if s_th t j = true then false else o_pm t j) j || k_sel (s_th t) (fun j => k_pd 0 (o_on t j)) 60 (s_r1 t) (-1) j) j || k_sel (s_th t) (fun j => k_pd 1 (o_on t j)) 60 (s_r2 t) (-1) j)) H := hW
        refine lv_aload_n hx hb dX3_markGenerations_61 rfl (lv_at hl 0 rfl) ?_
        refine lv_iconst (v := nI 2) hx hb dX3_markGenerations_62 (by decide) ?_
        refine lv_aload_n hx hb dX3_markGenerations_63 rfl (lv_at hl 0 rfl) ?_
        refine k_get (own := RX3) (C := RX3) (T := TX3) (N := 5) hx hb hts hinX3 hown hK hW (kc_5 g ad (set_o_pm (set_o_nd t (k_N0 (s_th t) (o_nd t))) (fun j => (fun j => (fun j => if s_th t j = true then false else o_pm t j) j || k_sel (s_th t) (fun j => k_pd 0 (o_on t j)) 60 (s_r1 t) (-1) j) j || k_sel (s_th t) (fun j => k_pd 1 (o_on t j)) 60 (s_r2 t) (-1) j))) rfl 4 (by decide) (hts (.fieldLink RX3 24 "DrillVault$Shelf" "monthsRule" "I") (by decide +kernel)) rfl (v := .int (nI (s_r3 t))) rfl dX3_markGenerations_64 ?_
        refine k_cv (va_runV (As := [.int (nI 2), .int (nI (s_r3 t))]) (rest := []) ⟨hx, hb, hml, hown, hts⟩ (c_X3_promiseLatest_2 l hlt g ad (set_o_pm (set_o_nd t (k_N0 (s_th t) (o_nd t))) (fun j => (fun j => (fun j => if s_th t j = true then false else o_pm t j) j || k_sel (s_th t) (fun j => k_pd 0 (o_on t j)) 60 (s_r1 t) (-1) j) j || k_sel (s_th t) (fun j => k_pd 1 (o_on t j)) 60 (s_r2 t) (-1) j)) (s_r3 t) hr3 hwf hon) (cwV 2 hts gX3_markGenerations_X3_promiseLatest rfl rfl rfl (by decide +kernel) ⟨(Nat.le_of_ble_eq_true rfl), (Nat.le_of_ble_eq_true rfl)⟩) ⟨k_blind, k_recv hK hW (kc_5 g ad (set_o_pm (set_o_nd t (k_N0 (s_th t) (o_nd t))) (fun j => (fun j => (fun j => if s_th t j = true then false else o_pm t j) j || k_sel (s_th t) (fun j => k_pd 0 (o_on t j)) 60 (s_r1 t) (-1) j) j || k_sel (s_th t) (fun j => k_pd 1 (o_on t j)) 60 (s_r2 t) (-1) j))) rfl, fun U hU hw => ⟨rfl, k_I.of hK hZ hN hS hW hU hw⟩⟩ rfl rfl hl.1 rfl (lv_room (Nat.le_of_ble_eq_true rfl)) dX3_markGenerations_67 ⟨(Nat.le_of_ble_eq_true rfl), (Nat.le_of_ble_eq_true rfl)⟩) hS (fun u H locs hpo hW hS => ?_)
        have hu9 := hpo.symm; subst hu9
        have hW : k_H g ad (set_o_pm (set_o_nd t (k_N0 (s_th t) (o_nd t))) (fun j => (fun j => (fun j => (fun j => if s_th t j = true then false else o_pm t j) j || k_sel (s_th t) (fun j => k_pd 0 (o_on t j)) 60 (s_r1 t) (-1) j) j || k_sel (s_th t) (fun j => k_pd 1 (o_on t j)) 60 (s_r2 t) (-1) j) j || k_sel (s_th t) (fun j => k_pd 2 (o_on t j)) 60 (s_r3 t) (-1) j)) H := hW
        have hW : k_H g ad (set_o_nd (set_o_pm t (k_Pm (s_th t) (o_pm t) (o_on t) (s_r1 t) (s_r2 t) (s_r3 t))) (k_N0 (s_th t) (o_nd t))) H := by
          rw [show (k_Pm (s_th t) (o_pm t) (o_on t) (s_r1 t) (s_r2 t) (s_r3 t)) = (fun j => (fun j => (fun j => (fun j => if s_th t j = true then false else o_pm t j) j || k_sel (s_th t) (fun j => k_pd 0 (o_on t j)) 60 (s_r1 t) (-1) j) j || k_sel (s_th t) (fun j => k_pd 1 (o_on t j)) 60 (s_r2 t) (-1) j) j || k_sel (s_th t) (fun j => k_pd 2 (o_on t j)) 60 (s_r3 t) (-1) j) from funext fun j => by simp only [k_Pm, k_P, Bool.or_assoc]]; exact hW
        refine lv_aload_n hx hb dX3_markGenerations_70 rfl (lv_at hl 0 rfl) ?_
        refine k_get (own := RX3) (C := RX3) (T := TX3) (N := 5) hx hb hts hinX3 hown hK hW (kc_5 g ad (set_o_nd (set_o_pm t (k_Pm (s_th t) (o_pm t) (o_on t) (s_r1 t) (s_r2 t) (s_r3 t))) (k_N0 (s_th t) (o_nd t)))) rfl 0 (by decide) (hts (.fieldLink RX3 11 "DrillVault$Shelf" "rows" "[LDrillVault$Copy;") (by decide +kernel)) rfl (v := .ref (ad 6 0)) rfl dX3_markGenerations_71 ?_
        refine lv_astore_n (lv' := [(1, .ref (ad 6 0)), (0, .ref (ad 5 0)), (2, .int (nI 60)), (3, .int (nI i))]) hx hb dX3_markGenerations_74 rfl hl (by decide) rfl (fun ls hl => ?_)
        refine lv_aload_n hx hb dX3_markGenerations_75 rfl (lv_at hl 0 rfl) ?_
        refine k_alen hx hb hK hW 3 rfl (kc_6 g ad (set_o_nd (set_o_pm t (k_Pm (s_th t) (o_pm t) (o_on t) (s_r1 t) (s_r2 t) (s_r3 t))) (k_N0 (s_th t) (o_nd t)))) (v := nI 60) rfl dX3_markGenerations_76 ?_
        refine lv_istore_n (lv' := [(2, .int (nI 60)), (1, .ref (ad 6 0)), (0, .ref (ad 5 0)), (3, .int (nI i))]) hx hb dX3_markGenerations_77 rfl hl (by decide) rfl (fun ls hl => ?_)
        refine lv_iconst (v := nI 0) hx hb dX3_markGenerations_78 (by decide) ?_
        refine lv_istore_n (lv' := [(3, .int (nI 0)), (2, .int (nI 60)), (1, .ref (ad 6 0)), (0, .ref (ad 5 0))]) hx hb dX3_markGenerations_79 rfl hl (by decide) rfl (fun ls hl => ?_)
        have hloop_80 : ∀ (n : Nat) (i : Nat) (N1 : Nat → Bool), (60 < i + n) → (i ≤ 60) → (∀ j, N1 j = (k_N0 (s_th t) (o_nd t) j || k_nd (s_th t) (k_Pm (s_th t) (o_pm t) (o_on t) (s_r1 t) (s_r2 t) (s_r3 t)) (o_b t) i j)) → ∀ (H : Heap) (locs : List Loc), k_H g ad (set_o_nd (set_o_pm t (k_Pm (s_th t) (o_pm t) (o_on t) (s_r1 t) (s_r2 t) (s_r3 t))) N1) H → va_S (k_A g) s.heap H locs → ∀ (ls : Array Slot), lv_has ls 5 [(0, .ref (ad 5 0)), (1, .ref (ad 6 0)), (2, .int (nI 60)), (3, .int (nI i))] → W p l e rm_X3_markGenerations s m args below meth c H locs 0 0 Q (F0 m 80 ls []) := by
          intro n
          induction n with
          | zero =>
            intro i N1 hfu hi hN1
            exact absurd hfu (by omega)
          | succ n ih =>
            intro i N1 hfu hi hN1 H locs hW hS ls hl
            refine lv_iload_n hx hb dX3_markGenerations_80 rfl (lv_at hl 3 rfl) ?_
            refine lv_iload_n hx hb dX3_markGenerations_81 rfl (lv_at hl 2 rfl) ?_
            refine k_icmp_ge (tgt := 114) hx hb (a := i) (b := 60) (by omega) (by decide) dX3_markGenerations_82 (by decide) (fun h_82 => ?_) (fun h_82 => ?_)
            · exact k_rv hQ hx hb hr hlk hS hW (by rw [show N1 = (k_Nm (s_th t) (o_nd t) (k_Pm (s_th t) (o_pm t) (o_on t) (s_r1 t) (s_r2 t) (s_r3 t)) (o_b t)) from funext fun j => by rw [hN1 j, show i = 60 by omega]; rfl]) (Nat.le_of_ble_eq_true rfl) (Nat.le_of_ble_eq_true rfl) dX3_markGenerations_114
            · refine lv_aload_n hx hb dX3_markGenerations_85 rfl (lv_at hl 1 rfl) ?_
              refine lv_iload_n hx hb dX3_markGenerations_86 rfl (lv_at hl 3 rfl) ?_
              refine k_aald hx hb hK hW (kc_6 g ad (set_o_nd (set_o_pm t (k_Pm (s_th t) (o_pm t) (o_on t) (s_r1 t) (s_r2 t) (s_r3 t))) N1)) i rfl (by omega) (by decide) dX3_markGenerations_87 ?_
              rcases Bool.eq_false_or_eq_true (s_th t i) with hb_88 | hb_88
              · refine k_tov (y := .ref (ad 25 i)) (congrArg va_rf (if_pos hb_88)) ?_
                refine lv_astore (lv' := [(4, .ref (ad 25 i)), (0, .ref (ad 5 0)), (1, .ref (ad 6 0)), (2, .int (nI 60)), (3, .int (nI i))]) hx hb dX3_markGenerations_88 hl (by decide) rfl (fun ls hl => ?_)
                refine lv_aload hx hb dX3_markGenerations_90 (lv_at hl 0 rfl) ?_
                refine lv_ifnull hx hb dX3_markGenerations_92 ?_
                refine lv_aload hx hb dX3_markGenerations_95 (lv_at hl 0 rfl) ?_
                refine k_getN (host := RX4) (index := 34) (own := RX3) (C := RX0) (T := TX0) (N := 11) hx hb hts hinX0 hown hK hW (kc_25 g ad (set_o_nd (set_o_pm t (k_Pm (s_th t) (o_pm t) (o_on t) (s_r1 t) (s_r2 t) (s_r3 t))) N1) (hwf _ hb_88)) rfl 8 (by decide) (by decide +kernel) rfl (v := .int (kb ((k_Pm (s_th t) (o_pm t) (o_on t) (s_r1 t) (s_r2 t) (s_r3 t)) i))) rfl dX3_markGenerations_97 ?_
                refine k_ifz_eq (tgt := 108) hx hb dX3_markGenerations_100 (by decide) (fun h_100 => ?_) (fun h_100 => ?_)
                · refine lv_iinc (v := nI (i + 1)) (lv' := [(3, .int (nI (i + 1))), (4, .ref (ad 25 i)), (0, .ref (ad 5 0)), (1, .ref (ad 6 0)), (2, .int (nI 60))]) hx hb dX3_markGenerations_108 hl (k := 4) rfl (nI_add _ _) (by decide) rfl (fun ls hl => ?_)
                  refine lv_goto (tgt := 80) hx hb dX3_markGenerations_111 (by decide) ?_
                  exact ih (i + 1) N1 (by omega) (by omega) (fun j => by rw [hN1 j, k_nd_n (by rw [hb_88, h_100]; rfl)]) _ _ hW hS _ (lv_sub hl [2, 3, 4, 0] rfl)
                · refine lv_aload hx hb dX3_markGenerations_103 (lv_at hl 0 rfl) ?_
                  refine k_cv (va_runV (As := []) (rest := []) ⟨hx, hb, hml, hown, hts⟩ (c_X0_markChainNeeded l hlt g ad (set_o_nd (set_o_pm t (k_Pm (s_th t) (o_pm t) (o_on t) (s_r1 t) (s_r2 t) (s_r3 t))) N1) i (hwf _ hb_88) hbs hb_88 hth (k_nd_cc hN1 (fun j b h q => (hbs _ _ (hwf _ h) q).2)) hwf) (cwV 0 hts gX3_markGenerations_X0_markChainNeeded rfl rfl rfl (by decide +kernel) ⟨(Nat.le_of_ble_eq_true rfl), (Nat.le_of_ble_eq_true rfl)⟩) ⟨k_blind, k_recv hK hW (kc_25 g ad (set_o_nd (set_o_pm t (k_Pm (s_th t) (o_pm t) (o_on t) (s_r1 t) (s_r2 t) (s_r3 t))) N1) (hwf _ hb_88)) rfl, fun U hU hw => ⟨rfl, k_I.of hK hZ hN hS hW hU hw⟩⟩ rfl rfl hl.1 rfl (lv_room (Nat.le_of_ble_eq_true rfl)) dX3_markGenerations_105 ⟨(Nat.le_of_ble_eq_true rfl), (Nat.le_of_ble_eq_true rfl)⟩) hS (fun u H locs hpo hW hS => ?_)
                  have hu9 := hpo.symm; subst hu9
                  have hW : k_H g ad (set_o_nd (set_o_pm t (k_Pm (s_th t) (o_pm t) (o_on t) (s_r1 t) (s_r2 t) (s_r3 t))) (fun j9 => N1 j9 || (k_cl (o_b t) i).contains j9)) H := hW
                  refine lv_iinc (v := nI (i + 1)) (lv' := [(3, .int (nI (i + 1))), (4, .ref (ad 25 i)), (0, .ref (ad 5 0)), (1, .ref (ad 6 0)), (2, .int (nI 60))]) hx hb dX3_markGenerations_108 hl (k := 4) rfl (nI_add _ _) (by decide) rfl (fun ls hl => ?_)
                  refine lv_goto (tgt := 80) hx hb dX3_markGenerations_111 (by decide) ?_
                  exact ih (i + 1) (fun j => N1 j || (k_cl (o_b t) i).contains j) (by omega) (by omega) (fun j => by show (N1 j || _) = _; rw [hN1 j, k_nd_y hb_88 h_100, Bool.or_assoc]) _ _ hW hS _ (lv_sub hl [2, 3, 4, 0] rfl)
              · refine k_tov (y := .null) (congrArg va_rf (if_neg (fun q => absurd (hb_88.symm.trans q) (by decide)))) ?_
                refine lv_astoreN (lv' := [(4, .null), (0, .ref (ad 5 0)), (1, .ref (ad 6 0)), (2, .int (nI 60)), (3, .int (nI i))]) hx hb dX3_markGenerations_88 hl (by decide) rfl (fun ls hl => ?_)
                refine lv_aloadN hx hb dX3_markGenerations_90 (lv_at hl 0 rfl) ?_
                refine lv_ifnullN (tgt := 108) hx hb dX3_markGenerations_92 (by decide) ?_
                refine lv_iinc (v := nI (i + 1)) (lv' := [(3, .int (nI (i + 1))), (4, .null), (0, .ref (ad 5 0)), (1, .ref (ad 6 0)), (2, .int (nI 60))]) hx hb dX3_markGenerations_108 hl (k := 4) rfl (nI_add _ _) (by decide) rfl (fun ls hl => ?_)
                refine lv_goto (tgt := 80) hx hb dX3_markGenerations_111 (by decide) ?_
                exact ih (i + 1) N1 (by omega) (by omega) (fun j => by rw [hN1 j, k_nd_n (by rw [hb_88]; rfl)]) _ _ hW hS _ (lv_sub hl [2, 3, 4, 0] rfl)
        exact hloop_80 61 0 (k_N0 (s_th t) (o_nd t)) (by omega) (by omega) (fun j => (Bool.or_false _).symm) _ _ hW hS _ (lv_sub hl [3, 2, 1, 0] rfl)
      · refine lv_aload_n hx hb dX3_markGenerations_15 rfl (lv_at hl 1 rfl) ?_
        refine lv_iload_n hx hb dX3_markGenerations_16 rfl (lv_at hl 3 rfl) ?_
        refine k_aald hx hb hK hW (kc_6 g ad (set_o_nd (set_o_pm t P1) N1)) i rfl (by omega) (by decide) dX3_markGenerations_17 ?_
        rcases Bool.eq_false_or_eq_true (s_th t i) with hb_18 | hb_18
        · refine k_tov (y := .ref (ad 25 i)) (congrArg va_rf (if_pos hb_18)) ?_
          refine lv_astore (lv' := [(4, .ref (ad 25 i)), (0, .ref (ad 5 0)), (1, .ref (ad 6 0)), (2, .int (nI 60)), (3, .int (nI i))]) hx hb dX3_markGenerations_18 hl (by decide) rfl (fun ls hl => ?_)
          refine lv_aload hx hb dX3_markGenerations_20 (lv_at hl 0 rfl) ?_
          refine lv_ifnull hx hb dX3_markGenerations_22 ?_
          refine lv_aload hx hb dX3_markGenerations_25 (lv_at hl 0 rfl) ?_
          refine lv_iconst (v := nI 0) hx hb dX3_markGenerations_27 (by decide) ?_
          refine k_putN (host := RX4) (index := 34) (own := RX3) (C := RX0) (T := TX0) (N := 11) hx hb hts hinX0 tyX0 tyX0_ok nmX0 hown hK hW hS (kc_25 g ad (set_o_nd (set_o_pm t P1) N1) (hwf _ hb_18)) rfl 8 (by decide) (by decide +kernel) rfl rfl (ty := tyX0 8) (v := .int (nI 0)) (tyX0_ok 8 (by decide)) rfl rfl (Nat.le_of_ble_eq_true rfl) dX3_markGenerations_28 (fun H locs hW hS => ?_)
          have hW : k_H g ad (set_o_pm (set_o_nd t N1) (va_up P1 i false)) H := kt_o_pm (t := set_o_nd (set_o_pm t P1) N1) i (hwf _ hb_18) false rfl hW
          refine lv_aload hx hb dX3_markGenerations_31 (lv_at hl 0 rfl) ?_
          refine lv_iconst (v := nI 0) hx hb dX3_markGenerations_33 (by decide) ?_
          refine k_putN (host := RX4) (index := 38) (own := RX3) (C := RX0) (T := TX0) (N := 11) hx hb hts hinX0 tyX0 tyX0_ok nmX0 hown hK hW hS (kc_25 g ad (set_o_pm (set_o_nd t N1) (va_up P1 i false)) (hwf _ hb_18)) rfl 9 (by decide) (by decide +kernel) rfl rfl (ty := tyX0 9) (v := .int (nI 0)) (tyX0_ok 9 (by decide)) rfl rfl (Nat.le_of_ble_eq_true rfl) dX3_markGenerations_34 (fun H locs hW hS => ?_)
          have hW : k_H g ad (set_o_nd (set_o_pm t (va_up P1 i false)) (va_up N1 i false)) H := kt_o_nd (t := set_o_pm (set_o_nd t N1) (va_up P1 i false)) i (hwf _ hb_18) false rfl hW
          refine lv_iinc (v := nI (i + 1)) (lv' := [(3, .int (nI (i + 1))), (4, .ref (ad 25 i)), (0, .ref (ad 5 0)), (1, .ref (ad 6 0)), (2, .int (nI 60))]) hx hb dX3_markGenerations_37 hl (k := 4) rfl (nI_add _ _) (by decide) rfl (fun ls hl => ?_)
          refine lv_goto (tgt := 10) hx hb dX3_markGenerations_40 (by decide) ?_
          exact ih (i + 1) (va_up P1 i false) (va_up N1 i false) (by omega) (by omega) (k_rs hP1 hb_18 rfl) (k_rs hN1 hb_18 rfl) _ _ hW hS _ (lv_sub hl [2, 3, 4, 0] rfl)
        · refine k_tov (y := .null) (congrArg va_rf (if_neg (fun q => absurd (hb_18.symm.trans q) (by decide)))) ?_
          refine lv_astoreN (lv' := [(4, .null), (0, .ref (ad 5 0)), (1, .ref (ad 6 0)), (2, .int (nI 60)), (3, .int (nI i))]) hx hb dX3_markGenerations_18 hl (by decide) rfl (fun ls hl => ?_)
          refine lv_aloadN hx hb dX3_markGenerations_20 (lv_at hl 0 rfl) ?_
          refine lv_ifnullN (tgt := 37) hx hb dX3_markGenerations_22 (by decide) ?_
          refine lv_iinc (v := nI (i + 1)) (lv' := [(3, .int (nI (i + 1))), (4, .null), (0, .ref (ad 5 0)), (1, .ref (ad 6 0)), (2, .int (nI 60))]) hx hb dX3_markGenerations_37 hl (k := 4) rfl (nI_add _ _) (by decide) rfl (fun ls hl => ?_)
          refine lv_goto (tgt := 10) hx hb dX3_markGenerations_40 (by decide) ?_
          exact ih (i + 1) P1 N1 (by omega) (by omega) (k_rs_n hP1 hb_18) (k_rs_n hN1 hb_18) _ _ hW hS _ (lv_sub hl [2, 3, 4, 0] rfl)
  exact hloop_10 61 0 (o_pm t) (o_nd t) (by omega) (by omega) k_rs_0 k_rs_0 _ _ hW hS _ (lv_sub hl [3, 2, 1, 0] rfl)
abbrev rm_X3_countPromised : Room := { frames := 3, cells := 0, slots := 0, locals := 71 }
set_option maxRecDepth 100000 in
set_option maxHeartbeats 4000000 in
theorem c_X3_countPromised (l : Launch) (hlt : l.stackTraces = false) (g : k_g) (ad : k_AD) (t : k_T) (hwf : ∀ j, s_th t j = true → j < o_n t) (hbs : ∀ k b, k < o_n t → o_b t k = some b → b < o_n t ∧ b < k) (hth : ∀ j b, s_th t j = true → o_b t j = some b → s_th t b = true) (hn60 : o_n t ≤ 60) (hon : ∀ j, j < o_n t → o_on t j ≤ 360) (hr1 : s_r1 t ≤ 30) (hr2 : s_r2 t ≤ 30) (hr3 : s_r3 t ≤ 30) : Met l yX3_countPromised wsX3_countPromised rm_X3_countPromised (va_Pc [.ref (ad 5 0)] (k_I g (k_ct g ad t) ad)) (va_Qi (fun r u => r = nI (k_cb (fun k => (s_th t) k && (k_Pm (s_th t) (o_pm t) (o_on t) (s_r1 t) (s_r2 t) (s_r3 t)) k) 60) ∧ u = set_o_nd (set_o_pm t (k_Pm (s_th t) (o_pm t) (o_on t) (s_r1 t) (s_r2 t) (s_r3 t))) (k_Nm (s_th t) (o_nd t) (k_Pm (s_th t) (o_pm t) (o_on t) (s_r1 t) (s_r2 t) (s_r3 t)) (o_b t))) (fun u U => k_H g ad u U.heap) (k_A g)) 0 0 (k_A g) := by
  refine k_met (cc := cX3_countPromised) (maxL := 6) (ret := (some .int)) (by decide) rfl (Nat.le_of_ble_eq_true rfl) (fun p e s m args below meth c Q ls hQ hx hb hr hml hts hown hlk hin hK hZ hN hW hS hl => ?_)
  have hown : s.vm.findClass RX3 = some m.cls := hown
  have hW : k_H g ad t s.heap := hW
  have hl : lv_has ls 6 [(0, .ref (ad 5 0))] := hl
  have hinX0 : ∀ w ∈ wsX00, w ∈ wsX3_countPromised := by decide +kernel
  have hinX3 : ∀ w ∈ wsX30, w ∈ wsX3_countPromised := by decide +kernel
  refine lv_aload_n hx hb dX3_countPromised_0 rfl (lv_at hl 0 rfl) ?_
  refine k_cv (va_runV (As := []) (rest := []) ⟨hx, hb, hml, hown, hts⟩ (c_X3_markGenerations l hlt g ad t hwf hbs hth hn60 hon hr1 hr2 hr3) (cwV 0 hts gX3_countPromised_X3_markGenerations rfl rfl rfl (by decide +kernel) ⟨(Nat.le_of_ble_eq_true rfl), (Nat.le_of_ble_eq_true rfl)⟩) ⟨k_blind, k_recv hK hW (kc_5 g ad t) rfl, fun U hU hw => ⟨rfl, k_I.of hK hZ hN hS hW hU hw⟩⟩ rfl rfl hl.1 rfl (lv_room (Nat.le_of_ble_eq_true rfl)) dX3_countPromised_1 ⟨(Nat.le_of_ble_eq_true rfl), (Nat.le_of_ble_eq_true rfl)⟩) hS (fun u H locs hpo hW hS => ?_)
  have hu9 := hpo.symm; subst hu9
  have hW : k_H g ad (set_o_nd (set_o_pm t (k_Pm (s_th t) (o_pm t) (o_on t) (s_r1 t) (s_r2 t) (s_r3 t))) (k_Nm (s_th t) (o_nd t) (k_Pm (s_th t) (o_pm t) (o_on t) (s_r1 t) (s_r2 t) (s_r3 t)) (o_b t))) H := hW
  refine lv_iconst (v := nI 0) hx hb dX3_countPromised_4 (by decide) ?_
  refine lv_istore_n (lv' := [(1, .int (nI 0)), (0, .ref (ad 5 0))]) hx hb dX3_countPromised_5 rfl hl (by decide) rfl (fun ls hl => ?_)
  refine lv_aload_n hx hb dX3_countPromised_6 rfl (lv_at hl 1 rfl) ?_
  refine k_get (own := RX3) (C := RX3) (T := TX3) (N := 5) hx hb hts hinX3 hown hK hW (kc_5 g ad (set_o_nd (set_o_pm t (k_Pm (s_th t) (o_pm t) (o_on t) (s_r1 t) (s_r2 t) (s_r3 t))) (k_Nm (s_th t) (o_nd t) (k_Pm (s_th t) (o_pm t) (o_on t) (s_r1 t) (s_r2 t) (s_r3 t)) (o_b t)))) rfl 0 (by decide) (hts (.fieldLink RX3 11 "DrillVault$Shelf" "rows" "[LDrillVault$Copy;") (by decide +kernel)) rfl (v := .ref (ad 6 0)) rfl dX3_countPromised_7 ?_
  refine lv_astore_n (lv' := [(2, .ref (ad 6 0)), (1, .int (nI 0)), (0, .ref (ad 5 0))]) hx hb dX3_countPromised_10 rfl hl (by decide) rfl (fun ls hl => ?_)
  refine lv_aload_n hx hb dX3_countPromised_11 rfl (lv_at hl 0 rfl) ?_
  refine k_alen hx hb hK hW 3 rfl (kc_6 g ad (set_o_nd (set_o_pm t (k_Pm (s_th t) (o_pm t) (o_on t) (s_r1 t) (s_r2 t) (s_r3 t))) (k_Nm (s_th t) (o_nd t) (k_Pm (s_th t) (o_pm t) (o_on t) (s_r1 t) (s_r2 t) (s_r3 t)) (o_b t)))) (v := nI 60) rfl dX3_countPromised_12 ?_
  refine lv_istore_n (lv' := [(3, .int (nI 60)), (2, .ref (ad 6 0)), (1, .int (nI 0)), (0, .ref (ad 5 0))]) hx hb dX3_countPromised_13 rfl hl (by decide) rfl (fun ls hl => ?_)
  refine lv_iconst (v := nI 0) hx hb dX3_countPromised_14 (by decide) ?_
  refine lv_istore (lv' := [(4, .int (nI 0)), (3, .int (nI 60)), (2, .ref (ad 6 0)), (1, .int (nI 0)), (0, .ref (ad 5 0))]) hx hb dX3_countPromised_15 hl (by decide) rfl (fun ls hl => ?_)
  have hloop_17 : ∀ (n : Nat) (i : Nat) (cn : Nat), (60 < i + n) → (i ≤ 60) → (cn = k_cb (fun k => s_th t k && (k_Pm (s_th t) (o_pm t) (o_on t) (s_r1 t) (s_r2 t) (s_r3 t)) k) i) → ∀ (H : Heap) (locs : List Loc), k_H g ad (set_o_nd (set_o_pm t (k_Pm (s_th t) (o_pm t) (o_on t) (s_r1 t) (s_r2 t) (s_r3 t))) (k_Nm (s_th t) (o_nd t) (k_Pm (s_th t) (o_pm t) (o_on t) (s_r1 t) (s_r2 t) (s_r3 t)) (o_b t))) H → va_S (k_A g) s.heap H locs → ∀ (ls : Array Slot), lv_has ls 6 [(0, .ref (ad 5 0)), (2, .ref (ad 6 0)), (3, .int (nI 60)), (4, .int (nI i)), (1, .int (nI cn))] → W p l e rm_X3_countPromised s m args below meth c H locs 0 0 Q (F0 m 17 ls []) := by
    intro n
    induction n with
    | zero =>
      intro i cn hfu hi hcn
      exact absurd hfu (by omega)
    | succ n ih =>
      intro i cn hfu hi hcn H locs hW hS ls hl
      refine lv_iload hx hb dX3_countPromised_17 (lv_at hl 3 rfl) ?_
      refine lv_iload_n hx hb dX3_countPromised_19 rfl (lv_at hl 2 rfl) ?_
      refine k_icmp_ge (tgt := 51) hx hb (a := i) (b := 60) (by omega) (by decide) dX3_countPromised_20 (by decide) (fun h_20 => ?_) (fun h_20 => ?_)
      · refine lv_iload_n hx hb dX3_countPromised_51 rfl (lv_at hl 4 rfl) ?_
        exact k_ri hQ hx hb hr hlk hS hW ⟨by rw [hcn, show i = 60 by omega], rfl⟩ (Nat.le_of_ble_eq_true rfl) (Nat.le_of_ble_eq_true rfl) dX3_countPromised_52
      · refine lv_aload_n hx hb dX3_countPromised_23 rfl (lv_at hl 1 rfl) ?_
        refine lv_iload hx hb dX3_countPromised_24 (lv_at hl 3 rfl) ?_
        refine k_aald hx hb hK hW (kc_6 g ad (set_o_nd (set_o_pm t (k_Pm (s_th t) (o_pm t) (o_on t) (s_r1 t) (s_r2 t) (s_r3 t))) (k_Nm (s_th t) (o_nd t) (k_Pm (s_th t) (o_pm t) (o_on t) (s_r1 t) (s_r2 t) (s_r3 t)) (o_b t)))) i rfl (by omega) (by decide) dX3_countPromised_26 ?_
        rcases Bool.eq_false_or_eq_true (s_th t i) with hb_27 | hb_27
        · refine k_tov (y := .ref (ad 25 i)) (congrArg va_rf (if_pos hb_27)) ?_
          refine lv_astore (lv' := [(5, .ref (ad 25 i)), (0, .ref (ad 5 0)), (2, .ref (ad 6 0)), (3, .int (nI 60)), (4, .int (nI i)), (1, .int (nI cn))]) hx hb dX3_countPromised_27 hl (by decide) rfl (fun ls hl => ?_)
          refine lv_aload hx hb dX3_countPromised_29 (lv_at hl 0 rfl) ?_
          refine lv_ifnull hx hb dX3_countPromised_31 ?_
          refine lv_aload hx hb dX3_countPromised_34 (lv_at hl 0 rfl) ?_
          refine k_getN (host := RX4) (index := 34) (own := RX3) (C := RX0) (T := TX0) (N := 11) hx hb hts hinX0 hown hK hW (kc_25 g ad (set_o_nd (set_o_pm t (k_Pm (s_th t) (o_pm t) (o_on t) (s_r1 t) (s_r2 t) (s_r3 t))) (k_Nm (s_th t) (o_nd t) (k_Pm (s_th t) (o_pm t) (o_on t) (s_r1 t) (s_r2 t) (s_r3 t)) (o_b t))) (hwf _ hb_27)) rfl 8 (by decide) (by decide +kernel) rfl (v := .int (kb ((k_Pm (s_th t) (o_pm t) (o_on t) (s_r1 t) (s_r2 t) (s_r3 t)) i))) rfl dX3_countPromised_36 ?_
          refine k_ifz_eq (tgt := 45) hx hb dX3_countPromised_39 (by decide) (fun h_39 => ?_) (fun h_39 => ?_)
          · refine lv_iinc (v := nI (i + 1)) (lv' := [(4, .int (nI (i + 1))), (5, .ref (ad 25 i)), (0, .ref (ad 5 0)), (2, .ref (ad 6 0)), (3, .int (nI 60)), (1, .int (nI cn))]) hx hb dX3_countPromised_45 hl (k := 4) rfl (nI_add _ _) (by decide) rfl (fun ls hl => ?_)
            refine lv_goto (tgt := 17) hx hb dX3_countPromised_48 (by decide) ?_
            exact ih (i + 1) cn (by omega) (by omega) (by rw [k_cb_n (show (s_th t i && _) = false by rw [hb_27, h_39]; rfl), hcn]) _ _ hW hS _ (lv_sub hl [2, 3, 4, 0, 5] rfl)
          · refine lv_iinc (v := nI (cn + 1)) (lv' := [(1, .int (nI (cn + 1))), (5, .ref (ad 25 i)), (0, .ref (ad 5 0)), (2, .ref (ad 6 0)), (3, .int (nI 60)), (4, .int (nI i))]) hx hb dX3_countPromised_42 hl (k := 5) rfl (nI_add _ _) (by decide) rfl (fun ls hl => ?_)
            refine lv_iinc (v := nI (i + 1)) (lv' := [(4, .int (nI (i + 1))), (1, .int (nI (cn + 1))), (5, .ref (ad 25 i)), (0, .ref (ad 5 0)), (2, .ref (ad 6 0)), (3, .int (nI 60))]) hx hb dX3_countPromised_45 hl (k := 5) rfl (nI_add _ _) (by decide) rfl (fun ls hl => ?_)
            refine lv_goto (tgt := 17) hx hb dX3_countPromised_48 (by decide) ?_
            exact ih (i + 1) (cn + 1) (by omega) (by omega) (by rw [k_cb_y (show (s_th t i && _) = true by rw [hb_27, h_39]; rfl), hcn]) _ _ hW hS _ (lv_sub hl [3, 4, 5, 0, 1] rfl)
        · refine k_tov (y := .null) (congrArg va_rf (if_neg (fun q => absurd (hb_27.symm.trans q) (by decide)))) ?_
          refine lv_astoreN (lv' := [(5, .null), (0, .ref (ad 5 0)), (2, .ref (ad 6 0)), (3, .int (nI 60)), (4, .int (nI i)), (1, .int (nI cn))]) hx hb dX3_countPromised_27 hl (by decide) rfl (fun ls hl => ?_)
          refine lv_aloadN hx hb dX3_countPromised_29 (lv_at hl 0 rfl) ?_
          refine lv_ifnullN (tgt := 45) hx hb dX3_countPromised_31 (by decide) ?_
          refine lv_iinc (v := nI (i + 1)) (lv' := [(4, .int (nI (i + 1))), (5, .null), (0, .ref (ad 5 0)), (2, .ref (ad 6 0)), (3, .int (nI 60)), (1, .int (nI cn))]) hx hb dX3_countPromised_45 hl (k := 4) rfl (nI_add _ _) (by decide) rfl (fun ls hl => ?_)
          refine lv_goto (tgt := 17) hx hb dX3_countPromised_48 (by decide) ?_
          exact ih (i + 1) cn (by omega) (by omega) (by rw [k_cb_n (show (s_th t i && _) = false by rw [hb_27]; rfl), hcn]) _ _ hW hS _ (lv_sub hl [2, 3, 4, 0, 5] rfl)
  exact hloop_17 61 0 0 (by omega) (by omega) rfl _ _ hW hS _ (lv_sub hl [4, 2, 1, 0, 3] rfl)
abbrev rm_X3_countPromisedButDamaged : Room := { frames := 3, cells := 0, slots := 0, locals := 71 }
set_option maxRecDepth 100000 in
set_option maxHeartbeats 4000000 in
theorem c_X3_countPromisedButDamaged (l : Launch) (hlt : l.stackTraces = false) (g : k_g) (ad : k_AD) (t : k_T) (hwf : ∀ j, s_th t j = true → j < o_n t) (hbs : ∀ k b, k < o_n t → o_b t k = some b → b < o_n t ∧ b < k) (hth : ∀ j b, s_th t j = true → o_b t j = some b → s_th t b = true) (hn60 : o_n t ≤ 60) (hon : ∀ j, j < o_n t → o_on t j ≤ 360) (hr1 : s_r1 t ≤ 30) (hr2 : s_r2 t ≤ 30) (hr3 : s_r3 t ≤ 30) : Met l yX3_countPromisedButDamaged wsX3_countPromisedButDamaged rm_X3_countPromisedButDamaged (va_Pc [.ref (ad 5 0)] (k_I g (k_ct g ad t) ad)) (va_Qi (fun r u => r = nI (k_cb (fun k => ((s_th t) k && (k_Pm (s_th t) (o_pm t) (o_on t) (s_r1 t) (s_r2 t) (s_r3 t)) k) && (k_cl (o_b t) k).any (o_dm t)) 60) ∧ u = set_o_nd (set_o_pm t (k_Pm (s_th t) (o_pm t) (o_on t) (s_r1 t) (s_r2 t) (s_r3 t))) (k_Nm (s_th t) (o_nd t) (k_Pm (s_th t) (o_pm t) (o_on t) (s_r1 t) (s_r2 t) (s_r3 t)) (o_b t))) (fun u U => k_H g ad u U.heap) (k_A g)) 0 0 (k_A g) := by
  refine k_met (cc := cX3_countPromisedButDamaged) (maxL := 6) (ret := (some .int)) (by decide) rfl (Nat.le_of_ble_eq_true rfl) (fun p e s m args below meth c Q ls hQ hx hb hr hml hts hown hlk hin hK hZ hN hW hS hl => ?_)
  have hown : s.vm.findClass RX3 = some m.cls := hown
  have hW : k_H g ad t s.heap := hW
  have hl : lv_has ls 6 [(0, .ref (ad 5 0))] := hl
  have hinX0 : ∀ w ∈ wsX00, w ∈ wsX3_countPromisedButDamaged := by decide +kernel
  have hinX3 : ∀ w ∈ wsX30, w ∈ wsX3_countPromisedButDamaged := by decide +kernel
  refine lv_aload_n hx hb dX3_countPromisedButDamaged_0 rfl (lv_at hl 0 rfl) ?_
  refine k_cv (va_runV (As := []) (rest := []) ⟨hx, hb, hml, hown, hts⟩ (c_X3_markGenerations l hlt g ad t hwf hbs hth hn60 hon hr1 hr2 hr3) (cwV 0 hts gX3_countPromisedButDamaged_X3_markGenerations rfl rfl rfl (by decide +kernel) ⟨(Nat.le_of_ble_eq_true rfl), (Nat.le_of_ble_eq_true rfl)⟩) ⟨k_blind, k_recv hK hW (kc_5 g ad t) rfl, fun U hU hw => ⟨rfl, k_I.of hK hZ hN hS hW hU hw⟩⟩ rfl rfl hl.1 rfl (lv_room (Nat.le_of_ble_eq_true rfl)) dX3_countPromisedButDamaged_1 ⟨(Nat.le_of_ble_eq_true rfl), (Nat.le_of_ble_eq_true rfl)⟩) hS (fun u H locs hpo hW hS => ?_)
  have hu9 := hpo.symm; subst hu9
  have hW : k_H g ad (set_o_nd (set_o_pm t (k_Pm (s_th t) (o_pm t) (o_on t) (s_r1 t) (s_r2 t) (s_r3 t))) (k_Nm (s_th t) (o_nd t) (k_Pm (s_th t) (o_pm t) (o_on t) (s_r1 t) (s_r2 t) (s_r3 t)) (o_b t))) H := hW
  refine lv_iconst (v := nI 0) hx hb dX3_countPromisedButDamaged_4 (by decide) ?_
  refine lv_istore_n (lv' := [(1, .int (nI 0)), (0, .ref (ad 5 0))]) hx hb dX3_countPromisedButDamaged_5 rfl hl (by decide) rfl (fun ls hl => ?_)
  refine lv_aload_n hx hb dX3_countPromisedButDamaged_6 rfl (lv_at hl 1 rfl) ?_
  refine k_get (own := RX3) (C := RX3) (T := TX3) (N := 5) hx hb hts hinX3 hown hK hW (kc_5 g ad (set_o_nd (set_o_pm t (k_Pm (s_th t) (o_pm t) (o_on t) (s_r1 t) (s_r2 t) (s_r3 t))) (k_Nm (s_th t) (o_nd t) (k_Pm (s_th t) (o_pm t) (o_on t) (s_r1 t) (s_r2 t) (s_r3 t)) (o_b t)))) rfl 0 (by decide) (hts (.fieldLink RX3 11 "DrillVault$Shelf" "rows" "[LDrillVault$Copy;") (by decide +kernel)) rfl (v := .ref (ad 6 0)) rfl dX3_countPromisedButDamaged_7 ?_
  refine lv_astore_n (lv' := [(2, .ref (ad 6 0)), (1, .int (nI 0)), (0, .ref (ad 5 0))]) hx hb dX3_countPromisedButDamaged_10 rfl hl (by decide) rfl (fun ls hl => ?_)
  refine lv_aload_n hx hb dX3_countPromisedButDamaged_11 rfl (lv_at hl 0 rfl) ?_
  refine k_alen hx hb hK hW 3 rfl (kc_6 g ad (set_o_nd (set_o_pm t (k_Pm (s_th t) (o_pm t) (o_on t) (s_r1 t) (s_r2 t) (s_r3 t))) (k_Nm (s_th t) (o_nd t) (k_Pm (s_th t) (o_pm t) (o_on t) (s_r1 t) (s_r2 t) (s_r3 t)) (o_b t)))) (v := nI 60) rfl dX3_countPromisedButDamaged_12 ?_
  refine lv_istore_n (lv' := [(3, .int (nI 60)), (2, .ref (ad 6 0)), (1, .int (nI 0)), (0, .ref (ad 5 0))]) hx hb dX3_countPromisedButDamaged_13 rfl hl (by decide) rfl (fun ls hl => ?_)
  refine lv_iconst (v := nI 0) hx hb dX3_countPromisedButDamaged_14 (by decide) ?_
  refine lv_istore (lv' := [(4, .int (nI 0)), (3, .int (nI 60)), (2, .ref (ad 6 0)), (1, .int (nI 0)), (0, .ref (ad 5 0))]) hx hb dX3_countPromisedButDamaged_15 hl (by decide) rfl (fun ls hl => ?_)
  have hloop_17 : ∀ (n : Nat) (i : Nat) (cn : Nat), (60 < i + n) → (i ≤ 60) → (cn = k_cb (fun k => ((s_th t) k && (k_Pm (s_th t) (o_pm t) (o_on t) (s_r1 t) (s_r2 t) (s_r3 t)) k) && (k_cl (o_b t) k).any (o_dm t)) i) → ∀ (H : Heap) (locs : List Loc), k_H g ad (set_o_nd (set_o_pm t (k_Pm (s_th t) (o_pm t) (o_on t) (s_r1 t) (s_r2 t) (s_r3 t))) (k_Nm (s_th t) (o_nd t) (k_Pm (s_th t) (o_pm t) (o_on t) (s_r1 t) (s_r2 t) (s_r3 t)) (o_b t))) H → va_S (k_A g) s.heap H locs → ∀ (ls : Array Slot), lv_has ls 6 [(0, .ref (ad 5 0)), (2, .ref (ad 6 0)), (3, .int (nI 60)), (4, .int (nI i)), (1, .int (nI cn))] → W p l e rm_X3_countPromisedButDamaged s m args below meth c H locs 0 0 Q (F0 m 17 ls []) := by
    intro n
    induction n with
    | zero =>
      intro i cn hfu hi hcn
      exact absurd hfu (by omega)
    | succ n ih =>
      intro i cn hfu hi hcn H locs hW hS ls hl
      refine lv_iload hx hb dX3_countPromisedButDamaged_17 (lv_at hl 3 rfl) ?_
      refine lv_iload_n hx hb dX3_countPromisedButDamaged_19 rfl (lv_at hl 2 rfl) ?_
      refine k_icmp_ge (tgt := 59) hx hb (a := i) (b := 60) (by omega) (by decide) dX3_countPromisedButDamaged_20 (by decide) (fun h_20 => ?_) (fun h_20 => ?_)
      · refine lv_iload_n hx hb dX3_countPromisedButDamaged_59 rfl (lv_at hl 4 rfl) ?_
        exact k_ri hQ hx hb hr hlk hS hW ⟨by rw [hcn, show i = 60 by omega], rfl⟩ (Nat.le_of_ble_eq_true rfl) (Nat.le_of_ble_eq_true rfl) dX3_countPromisedButDamaged_60
      · refine lv_aload_n hx hb dX3_countPromisedButDamaged_23 rfl (lv_at hl 1 rfl) ?_
        refine lv_iload hx hb dX3_countPromisedButDamaged_24 (lv_at hl 3 rfl) ?_
        refine k_aald hx hb hK hW (kc_6 g ad (set_o_nd (set_o_pm t (k_Pm (s_th t) (o_pm t) (o_on t) (s_r1 t) (s_r2 t) (s_r3 t))) (k_Nm (s_th t) (o_nd t) (k_Pm (s_th t) (o_pm t) (o_on t) (s_r1 t) (s_r2 t) (s_r3 t)) (o_b t)))) i rfl (by omega) (by decide) dX3_countPromisedButDamaged_26 ?_
        rcases Bool.eq_false_or_eq_true (s_th t i) with hb_27 | hb_27
        · refine k_tov (y := .ref (ad 25 i)) (congrArg va_rf (if_pos hb_27)) ?_
          refine lv_astore (lv' := [(5, .ref (ad 25 i)), (0, .ref (ad 5 0)), (2, .ref (ad 6 0)), (3, .int (nI 60)), (4, .int (nI i)), (1, .int (nI cn))]) hx hb dX3_countPromisedButDamaged_27 hl (by decide) rfl (fun ls hl => ?_)
          refine lv_aload hx hb dX3_countPromisedButDamaged_29 (lv_at hl 0 rfl) ?_
          refine lv_ifnull hx hb dX3_countPromisedButDamaged_31 ?_
          refine lv_aload hx hb dX3_countPromisedButDamaged_34 (lv_at hl 0 rfl) ?_
          refine k_getN (host := RX4) (index := 34) (own := RX3) (C := RX0) (T := TX0) (N := 11) hx hb hts hinX0 hown hK hW (kc_25 g ad (set_o_nd (set_o_pm t (k_Pm (s_th t) (o_pm t) (o_on t) (s_r1 t) (s_r2 t) (s_r3 t))) (k_Nm (s_th t) (o_nd t) (k_Pm (s_th t) (o_pm t) (o_on t) (s_r1 t) (s_r2 t) (s_r3 t)) (o_b t))) (hwf _ hb_27)) rfl 8 (by decide) (by decide +kernel) rfl (v := .int (kb ((k_Pm (s_th t) (o_pm t) (o_on t) (s_r1 t) (s_r2 t) (s_r3 t)) i))) rfl dX3_countPromisedButDamaged_36 ?_
          refine k_ifz_eq (tgt := 53) hx hb dX3_countPromisedButDamaged_39 (by decide) (fun h_39 => ?_) (fun h_39 => ?_)
          · refine lv_iinc (v := nI (i + 1)) (lv' := [(4, .int (nI (i + 1))), (5, .ref (ad 25 i)), (0, .ref (ad 5 0)), (2, .ref (ad 6 0)), (3, .int (nI 60)), (1, .int (nI cn))]) hx hb dX3_countPromisedButDamaged_53 hl (k := 4) rfl (nI_add _ _) (by decide) rfl (fun ls hl => ?_)
            refine lv_goto (tgt := 17) hx hb dX3_countPromisedButDamaged_56 (by decide) ?_
            exact ih (i + 1) cn (by omega) (by omega) (by rw [k_cb_n (show ((s_th t i && _) && _) = false by rw [hb_27, h_39]; rfl), hcn]) _ _ hW hS _ (lv_sub hl [2, 3, 4, 0, 5] rfl)
          · refine lv_aload hx hb dX3_countPromisedButDamaged_42 (lv_at hl 0 rfl) ?_
            refine k_ci (va_runV (As := []) (rest := []) ⟨hx, hb, hml, hown, hts⟩ (c_X0_hasDamagedChain l hlt g ad (set_o_nd (set_o_pm t (k_Pm (s_th t) (o_pm t) (o_on t) (s_r1 t) (s_r2 t) (s_r3 t))) (k_Nm (s_th t) (o_nd t) (k_Pm (s_th t) (o_pm t) (o_on t) (s_r1 t) (s_r2 t) (s_r3 t)) (o_b t))) i (hwf _ hb_27) hbs) (cwV 0 hts gX3_countPromisedButDamaged_X0_hasDamagedChain rfl rfl rfl (by decide +kernel) ⟨(Nat.le_of_ble_eq_true rfl), (Nat.le_of_ble_eq_true rfl)⟩) ⟨k_blind, k_recv hK hW (kc_25 g ad (set_o_nd (set_o_pm t (k_Pm (s_th t) (o_pm t) (o_on t) (s_r1 t) (s_r2 t) (s_r3 t))) (k_Nm (s_th t) (o_nd t) (k_Pm (s_th t) (o_pm t) (o_on t) (s_r1 t) (s_r2 t) (s_r3 t)) (o_b t))) (hwf _ hb_27)) rfl, fun U hU hw => ⟨rfl, k_I.of hK hZ hN hS hW hU hw⟩⟩ rfl rfl hl.1 rfl (lv_room (Nat.le_of_ble_eq_true rfl)) dX3_countPromisedButDamaged_44 ⟨(Nat.le_of_ble_eq_true rfl), (Nat.le_of_ble_eq_true rfl)⟩) hS (fun r u H locs hpo hW hS => ?_)
            obtain ⟨hr9, hu9⟩ := hpo; replace hu9 := hu9.symm; subst hu9; replace hr9 := hr9.symm; subst hr9
            refine k_ifz_eq (tgt := 53) hx hb dX3_countPromisedButDamaged_47 (by decide) (fun h_47 => ?_) (fun h_47 => ?_)
            · refine lv_iinc (v := nI (i + 1)) (lv' := [(4, .int (nI (i + 1))), (5, .ref (ad 25 i)), (0, .ref (ad 5 0)), (2, .ref (ad 6 0)), (3, .int (nI 60)), (1, .int (nI cn))]) hx hb dX3_countPromisedButDamaged_53 hl (k := 4) rfl (nI_add _ _) (by decide) rfl (fun ls hl => ?_)
              refine lv_goto (tgt := 17) hx hb dX3_countPromisedButDamaged_56 (by decide) ?_
              exact ih (i + 1) cn (by omega) (by omega) (by rw [k_cb_n (show ((s_th t i && _) && _) = false by rw [hb_27, h_39, h_47]; rfl), hcn]) _ _ hW hS _ (lv_sub hl [2, 3, 4, 0, 5] rfl)
            · refine lv_iinc (v := nI (cn + 1)) (lv' := [(1, .int (nI (cn + 1))), (5, .ref (ad 25 i)), (0, .ref (ad 5 0)), (2, .ref (ad 6 0)), (3, .int (nI 60)), (4, .int (nI i))]) hx hb dX3_countPromisedButDamaged_50 hl (k := 5) rfl (nI_add _ _) (by decide) rfl (fun ls hl => ?_)
              refine lv_iinc (v := nI (i + 1)) (lv' := [(4, .int (nI (i + 1))), (1, .int (nI (cn + 1))), (5, .ref (ad 25 i)), (0, .ref (ad 5 0)), (2, .ref (ad 6 0)), (3, .int (nI 60))]) hx hb dX3_countPromisedButDamaged_53 hl (k := 5) rfl (nI_add _ _) (by decide) rfl (fun ls hl => ?_)
              refine lv_goto (tgt := 17) hx hb dX3_countPromisedButDamaged_56 (by decide) ?_
              exact ih (i + 1) (cn + 1) (by omega) (by omega) (by rw [k_cb_y (show ((s_th t i && _) && _) = true by rw [hb_27, h_39, h_47]; rfl), hcn]) _ _ hW hS _ (lv_sub hl [3, 4, 5, 0, 1] rfl)
        · refine k_tov (y := .null) (congrArg va_rf (if_neg (fun q => absurd (hb_27.symm.trans q) (by decide)))) ?_
          refine lv_astoreN (lv' := [(5, .null), (0, .ref (ad 5 0)), (2, .ref (ad 6 0)), (3, .int (nI 60)), (4, .int (nI i)), (1, .int (nI cn))]) hx hb dX3_countPromisedButDamaged_27 hl (by decide) rfl (fun ls hl => ?_)
          refine lv_aloadN hx hb dX3_countPromisedButDamaged_29 (lv_at hl 0 rfl) ?_
          refine lv_ifnullN (tgt := 53) hx hb dX3_countPromisedButDamaged_31 (by decide) ?_
          refine lv_iinc (v := nI (i + 1)) (lv' := [(4, .int (nI (i + 1))), (5, .null), (0, .ref (ad 5 0)), (2, .ref (ad 6 0)), (3, .int (nI 60)), (1, .int (nI cn))]) hx hb dX3_countPromisedButDamaged_53 hl (k := 4) rfl (nI_add _ _) (by decide) rfl (fun ls hl => ?_)
          refine lv_goto (tgt := 17) hx hb dX3_countPromisedButDamaged_56 (by decide) ?_
          exact ih (i + 1) cn (by omega) (by omega) (by rw [k_cb_n (show ((s_th t i && _) && _) = false by rw [hb_27]; rfl), hcn]) _ _ hW hS _ (lv_sub hl [2, 3, 4, 0, 5] rfl)
  exact hloop_17 61 0 0 (by omega) (by omega) rfl _ _ hW hS _ (lv_sub hl [4, 2, 1, 0, 3] rfl)
abbrev rm_X3_latestProvedDay : Room := { frames := 1, cells := 0, slots := 0, locals := 21 }
set_option maxRecDepth 100000 in
set_option maxHeartbeats 4000000 in
theorem c_X3_latestProvedDay (l : Launch) (hlt : l.stackTraces = false) (g : k_g) (ad : k_AD) (t : k_T) (hwf : ∀ j, s_th t j = true → j < o_n t) : Met l yX3_latestProvedDay wsX3_latestProvedDay rm_X3_latestProvedDay (va_Pc [.ref (ad 5 0)] (k_I g (k_ct g ad t) ad)) (va_Qi (fun r u => r = k_lp (fun k => (s_th t) k && (o_pv t) k) (o_on t) 60 ∧ u = t) (fun u U => k_H g ad u U.heap) (k_A g)) 0 0 (k_A g) := by
  refine k_met (cc := cX3_latestProvedDay) (maxL := 6) (ret := (some .int)) (by decide) rfl (Nat.le_of_ble_eq_true rfl) (fun p e s m args below meth c Q ls hQ hx hb hr hml hts hown hlk hin hK hZ hN hW hS hl => ?_)
  have hown : s.vm.findClass RX3 = some m.cls := hown
  have hW : k_H g ad t s.heap := hW
  have hl : lv_has ls 6 [(0, .ref (ad 5 0))] := hl
  have hinX0 : ∀ w ∈ wsX00, w ∈ wsX3_latestProvedDay := by decide +kernel
  have hinX3 : ∀ w ∈ wsX30, w ∈ wsX3_latestProvedDay := by decide +kernel
  refine lv_iconst (v := (-1)) hx hb dX3_latestProvedDay_0 (by decide) ?_
  refine lv_istore_n (lv' := [(1, .int (-1)), (0, .ref (ad 5 0))]) hx hb dX3_latestProvedDay_1 rfl hl (by decide) rfl (fun ls hl => ?_)
  refine lv_aload_n hx hb dX3_latestProvedDay_2 rfl (lv_at hl 1 rfl) ?_
  refine k_get (own := RX3) (C := RX3) (T := TX3) (N := 5) hx hb hts hinX3 hown hK hW (kc_5 g ad t) rfl 0 (by decide) (hts (.fieldLink RX3 11 "DrillVault$Shelf" "rows" "[LDrillVault$Copy;") (by decide +kernel)) rfl (v := .ref (ad 6 0)) rfl dX3_latestProvedDay_3 ?_
  refine lv_astore_n (lv' := [(2, .ref (ad 6 0)), (1, .int (-1)), (0, .ref (ad 5 0))]) hx hb dX3_latestProvedDay_6 rfl hl (by decide) rfl (fun ls hl => ?_)
  refine lv_aload_n hx hb dX3_latestProvedDay_7 rfl (lv_at hl 0 rfl) ?_
  refine k_alen hx hb hK hW 3 rfl (kc_6 g ad t) (v := nI 60) rfl dX3_latestProvedDay_8 ?_
  refine lv_istore_n (lv' := [(3, .int (nI 60)), (2, .ref (ad 6 0)), (1, .int (-1)), (0, .ref (ad 5 0))]) hx hb dX3_latestProvedDay_9 rfl hl (by decide) rfl (fun ls hl => ?_)
  refine lv_iconst (v := nI 0) hx hb dX3_latestProvedDay_10 (by decide) ?_
  refine lv_istore (lv' := [(4, .int (nI 0)), (3, .int (nI 60)), (2, .ref (ad 6 0)), (1, .int (-1)), (0, .ref (ad 5 0))]) hx hb dX3_latestProvedDay_11 hl (by decide) rfl (fun ls hl => ?_)
  have hloop_13 : ∀ (n : Nat) (i : Nat) (z : Int32), (60 < i + n) → (i ≤ 60) → (z = k_lp (fun k => (s_th t) k && (o_pv t) k) (o_on t) i) → ∀ (H : Heap) (locs : List Loc), k_H g ad t H → va_S (k_A g) s.heap H locs → ∀ (ls : Array Slot), lv_has ls 6 [(0, .ref (ad 5 0)), (2, .ref (ad 6 0)), (3, .int (nI 60)), (4, .int (nI i)), (1, .int z)] → W p l e rm_X3_latestProvedDay s m args below meth c H locs 0 0 Q (F0 m 13 ls []) := by
    intro n
    induction n with
    | zero =>
      intro i z hfu hi hz
      exact absurd hfu (by omega)
    | succ n ih =>
      intro i z hfu hi hz H locs hW hS ls hl
      refine lv_iload hx hb dX3_latestProvedDay_13 (lv_at hl 3 rfl) ?_
      refine lv_iload_n hx hb dX3_latestProvedDay_15 rfl (lv_at hl 2 rfl) ?_
      refine k_icmp_ge (tgt := 54) hx hb (a := i) (b := 60) (by omega) (by decide) dX3_latestProvedDay_16 (by decide) (fun h_16 => ?_) (fun h_16 => ?_)
      · refine lv_iload_n hx hb dX3_latestProvedDay_54 rfl (lv_at hl 4 rfl) ?_
        exact k_ri hQ hx hb hr hlk hS hW ⟨by rw [hz, show i = 60 by omega], rfl⟩ (Nat.le_of_ble_eq_true rfl) (Nat.le_of_ble_eq_true rfl) dX3_latestProvedDay_55
      · refine lv_aload_n hx hb dX3_latestProvedDay_19 rfl (lv_at hl 1 rfl) ?_
        refine lv_iload hx hb dX3_latestProvedDay_20 (lv_at hl 3 rfl) ?_
        refine k_aald hx hb hK hW (kc_6 g ad t) i rfl (by omega) (by decide) dX3_latestProvedDay_22 ?_
        rcases Bool.eq_false_or_eq_true (s_th t i) with hb_23 | hb_23
        · refine k_tov (y := .ref (ad 25 i)) (congrArg va_rf (if_pos hb_23)) ?_
          refine lv_astore (lv' := [(5, .ref (ad 25 i)), (0, .ref (ad 5 0)), (2, .ref (ad 6 0)), (3, .int (nI 60)), (4, .int (nI i)), (1, .int z)]) hx hb dX3_latestProvedDay_23 hl (by decide) rfl (fun ls hl => ?_)
          refine lv_aload hx hb dX3_latestProvedDay_25 (lv_at hl 0 rfl) ?_
          refine lv_ifnull hx hb dX3_latestProvedDay_27 ?_
          refine lv_aload hx hb dX3_latestProvedDay_30 (lv_at hl 0 rfl) ?_
          refine k_getN (host := RX4) (index := 69) (own := RX3) (C := RX0) (T := TX0) (N := 11) hx hb hts hinX0 hown hK hW (kc_25 g ad t (hwf _ hb_23)) rfl 7 (by decide) (by decide +kernel) rfl (v := .int (kb (o_pv t i))) rfl dX3_latestProvedDay_32 ?_
          refine k_ifz_eq (tgt := 48) hx hb dX3_latestProvedDay_35 (by decide) (fun h_35 => ?_) (fun h_35 => ?_)
          · refine lv_iinc (v := nI (i + 1)) (lv' := [(4, .int (nI (i + 1))), (5, .ref (ad 25 i)), (0, .ref (ad 5 0)), (2, .ref (ad 6 0)), (3, .int (nI 60)), (1, .int z)]) hx hb dX3_latestProvedDay_48 hl (k := 4) rfl (nI_add _ _) (by decide) rfl (fun ls hl => ?_)
            refine lv_goto (tgt := 13) hx hb dX3_latestProvedDay_51 (by decide) ?_
            exact ih (i + 1) z (by omega) (by omega) (by rw [k_lp_n (show (s_th t i && o_pv t i) = false by rw [hb_23, h_35]; rfl), hz]) _ _ hW hS _ (lv_sub hl [2, 3, 4, 0, 5] rfl)
          · refine lv_iload_n hx hb dX3_latestProvedDay_38 rfl (lv_at hl 5 rfl) ?_
            refine lv_aload hx hb dX3_latestProvedDay_39 (lv_at hl 0 rfl) ?_
            refine k_getN (host := RX4) (index := 72) (own := RX3) (C := RX0) (T := TX0) (N := 11) hx hb hts hinX0 hown hK hW (kc_25 g ad t (hwf _ hb_23)) rfl 1 (by decide) (by decide +kernel) rfl (v := .int (nI (o_on t i))) rfl dX3_latestProvedDay_41 ?_
            refine va_mmax hx hb (hml.trans hl.1.symm) hown (hts (.methodLink RX3 75 Lib.Math.max.name) (by decide +kernel)) (hts (.static Lib.Math.max.name) (by decide +kernel)) (hts (.initialized "java/lang/Math") (by decide +kernel)) (hts (.code Lib.Math.max.name Lib.Math.max.code 2 (some .int)) (by decide +kernel)) (Nat.le_of_ble_eq_true rfl) (Nat.le_of_ble_eq_true rfl) (Nat.le_of_ble_eq_true rfl) (Nat.le_of_ble_eq_true rfl) dX3_latestProvedDay_44 ?_
            refine k_toi (y := (if z < nI (o_on t i) then nI (o_on t i) else z)) rfl ?_
            refine lv_istore_n (lv' := [(1, .int (if z < nI (o_on t i) then nI (o_on t i) else z)), (5, .ref (ad 25 i)), (0, .ref (ad 5 0)), (2, .ref (ad 6 0)), (3, .int (nI 60)), (4, .int (nI i))]) hx hb dX3_latestProvedDay_47 rfl hl (by decide) rfl (fun ls hl => ?_)
            refine lv_iinc (v := nI (i + 1)) (lv' := [(4, .int (nI (i + 1))), (1, .int (if z < nI (o_on t i) then nI (o_on t i) else z)), (5, .ref (ad 25 i)), (0, .ref (ad 5 0)), (2, .ref (ad 6 0)), (3, .int (nI 60))]) hx hb dX3_latestProvedDay_48 hl (k := 5) rfl (nI_add _ _) (by decide) rfl (fun ls hl => ?_)
            refine lv_goto (tgt := 13) hx hb dX3_latestProvedDay_51 (by decide) ?_
            exact ih (i + 1) (if z < nI (o_on t i) then nI (o_on t i) else z) (by omega) (by omega) (by rw [k_lp_y (show (s_th t i && o_pv t i) = true by rw [hb_23, h_35]; rfl), hz]) _ _ hW hS _ (lv_sub hl [3, 4, 5, 0, 1] rfl)
        · refine k_tov (y := .null) (congrArg va_rf (if_neg (fun q => absurd (hb_23.symm.trans q) (by decide)))) ?_
          refine lv_astoreN (lv' := [(5, .null), (0, .ref (ad 5 0)), (2, .ref (ad 6 0)), (3, .int (nI 60)), (4, .int (nI i)), (1, .int z)]) hx hb dX3_latestProvedDay_23 hl (by decide) rfl (fun ls hl => ?_)
          refine lv_aloadN hx hb dX3_latestProvedDay_25 (lv_at hl 0 rfl) ?_
          refine lv_ifnullN (tgt := 48) hx hb dX3_latestProvedDay_27 (by decide) ?_
          refine lv_iinc (v := nI (i + 1)) (lv' := [(4, .int (nI (i + 1))), (5, .null), (0, .ref (ad 5 0)), (2, .ref (ad 6 0)), (3, .int (nI 60)), (1, .int z)]) hx hb dX3_latestProvedDay_48 hl (k := 4) rfl (nI_add _ _) (by decide) rfl (fun ls hl => ?_)
          refine lv_goto (tgt := 13) hx hb dX3_latestProvedDay_51 (by decide) ?_
          exact ih (i + 1) z (by omega) (by omega) (by rw [k_lp_n (show (s_th t i && o_pv t i) = false by rw [hb_23]; rfl), hz]) _ _ hW hS _ (lv_sub hl [2, 3, 4, 0, 5] rfl)
  exact hloop_13 61 0 (-1) (by omega) (by omega) rfl _ _ hW hS _ (lv_sub hl [4, 2, 1, 0, 3] rfl)
abbrev rm_X3_markHeld : Room := { frames := 0, cells := 0, slots := 0, locals := 0 }
set_option maxRecDepth 100000 in
set_option maxHeartbeats 4000000 in
theorem c_X3_markHeld (l : Launch) (hlt : l.stackTraces = false) (g : k_g) (ad : k_AD) (t : k_T) (z : Int32) (hwf : ∀ j, s_th t j = true → j < o_n t) (hbs : ∀ k b, k < o_n t → o_b t k = some b → b < o_n t ∧ b < k) (hn60 : o_n t ≤ 60) : Met l yX3_markHeld wsX3_markHeld rm_X3_markHeld (va_Pc [.ref (ad 5 0), .int z] (k_I g (k_ct g ad t) ad)) (va_Qv (fun u => u = set_o_hd t (k_Hd (s_th t) (o_nd t) (o_b t) (o_on t) (o_hd t) z)) (fun u U => k_H g ad u U.heap) (k_A g)) 0 0 (k_A g) := by
  refine k_met (cc := cX3_markHeld) (maxL := 6) (ret := none) (by decide) rfl (Nat.le_of_ble_eq_true rfl) (fun p e s m args below meth c Q ls hQ hx hb hr hml hts hown hlk hin hK hZ hN hW hS hl => ?_)
  have hown : s.vm.findClass RX3 = some m.cls := hown
  have hW : k_H g ad t s.heap := hW
  have hl : lv_has ls 6 [(0, .ref (ad 5 0)), (1, .int z)] := hl
  have hinX0 : ∀ w ∈ wsX00, w ∈ wsX3_markHeld := by decide +kernel
  have hinX3 : ∀ w ∈ wsX30, w ∈ wsX3_markHeld := by decide +kernel
  refine lv_aload_n hx hb dX3_markHeld_0 rfl (lv_at hl 0 rfl) ?_
  refine k_get (own := RX3) (C := RX3) (T := TX3) (N := 5) hx hb hts hinX3 hown hK hW (kc_5 g ad t) rfl 0 (by decide) (hts (.fieldLink RX3 11 "DrillVault$Shelf" "rows" "[LDrillVault$Copy;") (by decide +kernel)) rfl (v := .ref (ad 6 0)) rfl dX3_markHeld_1 ?_
  refine lv_astore_n (lv' := [(2, .ref (ad 6 0)), (0, .ref (ad 5 0)), (1, .int z)]) hx hb dX3_markHeld_4 rfl hl (by decide) rfl (fun ls hl => ?_)
  refine lv_aload_n hx hb dX3_markHeld_5 rfl (lv_at hl 0 rfl) ?_
  refine k_alen hx hb hK hW 3 rfl (kc_6 g ad t) (v := nI 60) rfl dX3_markHeld_6 ?_
  refine lv_istore_n (lv' := [(3, .int (nI 60)), (2, .ref (ad 6 0)), (0, .ref (ad 5 0)), (1, .int z)]) hx hb dX3_markHeld_7 rfl hl (by decide) rfl (fun ls hl => ?_)
  refine lv_iconst (v := nI 0) hx hb dX3_markHeld_8 (by decide) ?_
  refine lv_istore (lv' := [(4, .int (nI 0)), (3, .int (nI 60)), (2, .ref (ad 6 0)), (0, .ref (ad 5 0)), (1, .int z)]) hx hb dX3_markHeld_9 hl (by decide) rfl (fun ls hl => ?_)
  have hloop_11 : ∀ (n : Nat) (i : Nat) (Hd : Nat → Bool), (60 < i + n) → (i ≤ 60) → (∀ j, Hd j = if (decide (j < i) && s_th t j) = true then (fun j => o_nd t j || decide (z ≤ nI (o_on t j))) j else o_hd t j) → ∀ (H : Heap) (locs : List Loc), k_H g ad (set_o_hd t Hd) H → va_S (k_A g) s.heap H locs → ∀ (ls : Array Slot), lv_has ls 6 [(0, .ref (ad 5 0)), (1, .int z), (2, .ref (ad 6 0)), (3, .int (nI 60)), (4, .int (nI i))] → W p l e rm_X3_markHeld s m args below meth c H locs 0 0 Q (F0 m 11 ls []) := by
    intro n
    induction n with
    | zero =>
      intro i Hd hfu hi hH
      exact absurd hfu (by omega)
    | succ n ih =>
      intro i Hd hfu hi hH H locs hW hS ls hl
      refine lv_iload hx hb dX3_markHeld_11 (lv_at hl 4 rfl) ?_
      refine lv_iload_n hx hb dX3_markHeld_13 rfl (lv_at hl 3 rfl) ?_
      refine k_icmp_ge (tgt := 61) hx hb (a := i) (b := 60) (by omega) (by decide) dX3_markHeld_14 (by decide) (fun h_14 => ?_) (fun h_14 => ?_)
      · have hHe := k_rs_e hH hwf (show o_n t ≤ i by omega)
        subst hHe
        have hW : k_H g ad (set_o_hd t (k_H0 (s_th t) (o_nd t) (o_on t) (o_hd t) z)) H := hW
        refine lv_aload_n hx hb dX3_markHeld_61 rfl (lv_at hl 0 rfl) ?_
        refine k_get (own := RX3) (C := RX3) (T := TX3) (N := 5) hx hb hts hinX3 hown hK hW (kc_5 g ad (set_o_hd t (k_H0 (s_th t) (o_nd t) (o_on t) (o_hd t) z))) rfl 0 (by decide) (hts (.fieldLink RX3 11 "DrillVault$Shelf" "rows" "[LDrillVault$Copy;") (by decide +kernel)) rfl (v := .ref (ad 6 0)) rfl dX3_markHeld_62 ?_
        refine k_alen hx hb hK hW 3 rfl (kc_6 g ad (set_o_hd t (k_H0 (s_th t) (o_nd t) (o_on t) (o_hd t) z))) (v := nI 60) rfl dX3_markHeld_65 ?_
        refine lv_iconst (v := nI 1) hx hb dX3_markHeld_66 (by decide) ?_
        refine lv_isub hx hb dX3_markHeld_67 ?_
        refine k_toi (k_m1 _) ?_
        refine lv_istore_n (lv' := [(2, .int (nI 60 + (-1))), (0, .ref (ad 5 0)), (1, .int z), (3, .int (nI 60)), (4, .int (nI i))]) hx hb dX3_markHeld_68 rfl hl (by decide) rfl (fun ls hl => ?_)
        have hloop_69 : ∀ (r : Nat) (Hd : Nat → Bool), (r ≤ 60) → (k_hl (s_th t) (o_b t) 60 (k_H0 (s_th t) (o_nd t) (o_on t) (o_hd t) z) = k_hl (s_th t) (o_b t) r Hd) → ∀ (H : Heap) (locs : List Loc), k_H g ad (set_o_hd t Hd) H → va_S (k_A g) s.heap H locs → ∀ (ls : Array Slot), lv_has ls 6 [(0, .ref (ad 5 0)), (2, .int (nI r + (-1)))] → W p l e rm_X3_markHeld s m args below meth c H locs 0 0 Q (F0 m 69 ls []) := by
          intro r
          induction r with
          | zero =>
            intro Hd hr60 hH H locs hW hS ls hl
            refine lv_iload_n hx hb dX3_markHeld_69 rfl (lv_at hl 1 rfl) ?_
            refine lv_if_lt (tgt := 112) hx hb dX3_markHeld_70 (by decide) (fun h_70 => ?_) (fun h_70 => absurd k_n0 h_70)
            exact k_rv hQ hx hb hr hlk hS hW (by rw [show (k_Hd (s_th t) (o_nd t) (o_b t) (o_on t) (o_hd t) z) = Hd from hH]) (Nat.le_of_ble_eq_true rfl) (Nat.le_of_ble_eq_true rfl) dX3_markHeld_112
          | succ r ih =>
            intro Hd hr60 hH H locs hW hS ls hl
            rw [k_dec] at hl
            refine lv_iload_n hx hb dX3_markHeld_69 rfl (lv_at hl 1 rfl) ?_
            refine k_if_lt (tgt := 112) hx hb (by omega) dX3_markHeld_70 (by decide) ?_
            refine lv_aload_n hx hb dX3_markHeld_73 rfl (lv_at hl 0 rfl) ?_
            refine k_get (own := RX3) (C := RX3) (T := TX3) (N := 5) hx hb hts hinX3 hown hK hW (kc_5 g ad (set_o_hd t Hd)) rfl 0 (by decide) (hts (.fieldLink RX3 11 "DrillVault$Shelf" "rows" "[LDrillVault$Copy;") (by decide +kernel)) rfl (v := .ref (ad 6 0)) rfl dX3_markHeld_74 ?_
            refine lv_iload_n hx hb dX3_markHeld_77 rfl (lv_at hl 1 rfl) ?_
            refine k_aald hx hb hK hW (kc_6 g ad (set_o_hd t Hd)) r rfl (by omega) (by decide) dX3_markHeld_78 ?_
            rcases Bool.eq_false_or_eq_true (s_th t r) with hb_79 | hb_79
            · refine k_tov (y := .ref (ad 25 r)) (congrArg va_rf (if_pos hb_79)) ?_
              refine lv_astore_n (lv' := [(3, .ref (ad 25 r)), (0, .ref (ad 5 0)), (2, .int (nI r))]) hx hb dX3_markHeld_79 rfl hl (by decide) rfl (fun ls hl => ?_)
              refine lv_aload_n hx hb dX3_markHeld_80 rfl (lv_at hl 0 rfl) ?_
              refine lv_ifnull hx hb dX3_markHeld_81 ?_
              refine lv_aload_n hx hb dX3_markHeld_84 rfl (lv_at hl 0 rfl) ?_
              refine k_getN (host := RX4) (index := 66) (own := RX3) (C := RX0) (T := TX0) (N := 11) hx hb hts hinX0 hown hK hW (kc_25 g ad (set_o_hd t Hd) (hwf _ hb_79)) rfl 10 (by decide) (by decide +kernel) rfl (v := .int (kb (Hd r))) rfl dX3_markHeld_85 ?_
              refine k_ifz_eq (tgt := 106) hx hb dX3_markHeld_88 (by decide) (fun h_88 => ?_) (fun h_88 => ?_)
              · refine lv_iinc (v := nI r + (-1)) (lv' := [(2, .int (nI r + (-1))), (3, .ref (ad 25 r)), (0, .ref (ad 5 0))]) hx hb dX3_markHeld_106 hl (k := 2) rfl rfl (by decide) rfl (fun ls hl => ?_)
                refine lv_goto (tgt := 69) hx hb dX3_markHeld_109 (by decide) ?_
                exact ih Hd (by omega) (hH.trans (k_hl_n (fun q => by have h9 := h_88.symm.trans q.2; cases h9))) _ _ hW hS _ (lv_sub hl [2, 0] rfl)
              · refine lv_aload_n hx hb dX3_markHeld_91 rfl (lv_at hl 0 rfl) ?_
                refine k_getN (host := RX4) (index := 81) (own := RX3) (C := RX0) (T := TX0) (N := 11) hx hb hts hinX0 hown hK hW (kc_25 g ad (set_o_hd t Hd) (hwf _ hb_79)) rfl 2 (by decide) (by decide +kernel) rfl (v := va_rf ((o_b t r).map (ad 25))) rfl dX3_markHeld_92 ?_
                rcases hob_95 : o_b t r with _ | b_95
                · refine k_tov (y := .null) (by first | rfl | (rw [hob_95]; rfl)) ?_
                  refine lv_ifnullN (tgt := 106) hx hb dX3_markHeld_95 (by decide) ?_
                  refine lv_iinc (v := nI r + (-1)) (lv' := [(2, .int (nI r + (-1))), (3, .ref (ad 25 r)), (0, .ref (ad 5 0))]) hx hb dX3_markHeld_106 hl (k := 2) rfl rfl (by decide) rfl (fun ls hl => ?_)
                  refine lv_goto (tgt := 69) hx hb dX3_markHeld_109 (by decide) ?_
                  exact ih Hd (by omega) (hH.trans (k_hl_z hob_95)) _ _ hW hS _ (lv_sub hl [2, 0] rfl)
                · refine k_tov (y := .ref (ad 25 b_95)) (by first | rfl | (rw [hob_95]; rfl)) ?_
                  refine lv_ifnull hx hb dX3_markHeld_95 ?_
                  refine lv_aload_n hx hb dX3_markHeld_98 rfl (lv_at hl 0 rfl) ?_
                  refine k_getN (host := RX4) (index := 81) (own := RX3) (C := RX0) (T := TX0) (N := 11) hx hb hts hinX0 hown hK hW (kc_25 g ad (set_o_hd t Hd) (hwf _ hb_79)) rfl 2 (by decide) (by decide +kernel) rfl (v := va_rf ((o_b t r).map (ad 25))) rfl dX3_markHeld_99 ?_
                  refine k_tov (y := .ref (ad 25 b_95)) (by first | rfl | (rw [hob_95]; rfl)) ?_
                  refine lv_iconst (v := nI 1) hx hb dX3_markHeld_102 (by decide) ?_
                  refine k_putN (host := RX4) (index := 66) (own := RX3) (C := RX0) (T := TX0) (N := 11) hx hb hts hinX0 tyX0 tyX0_ok nmX0 hown hK hW hS (kc_25 g ad (set_o_hd t Hd) (hbs _ _ (hwf _ hb_79) hob_95).1) rfl 10 (by decide) (by decide +kernel) rfl rfl (ty := tyX0 10) (v := .int (nI 1)) (tyX0_ok 10 (by decide)) rfl rfl (Nat.le_of_ble_eq_true rfl) dX3_markHeld_103 (fun H locs hW hS => ?_)
                  have hW : k_H g ad (set_o_hd t (va_up Hd b_95 true)) H := kt_o_hd (t := set_o_hd t Hd) b_95 (hbs _ _ (hwf _ hb_79) hob_95).1 true rfl hW
                  refine lv_iinc (v := nI r + (-1)) (lv' := [(2, .int (nI r + (-1))), (3, .ref (ad 25 r)), (0, .ref (ad 5 0))]) hx hb dX3_markHeld_106 hl (k := 2) rfl rfl (by decide) rfl (fun ls hl => ?_)
                  refine lv_goto (tgt := 69) hx hb dX3_markHeld_109 (by decide) ?_
                  exact ih (va_up Hd b_95 true) (by omega) (hH.trans (k_hl_y hb_79 h_88 hob_95)) _ _ hW hS _ (lv_sub hl [2, 0] rfl)
            · refine k_tov (y := .null) (congrArg va_rf (if_neg (fun q => absurd (hb_79.symm.trans q) (by decide)))) ?_
              refine lv_astore_nN (lv' := [(3, .null), (0, .ref (ad 5 0)), (2, .int (nI r))]) hx hb dX3_markHeld_79 rfl hl (by decide) rfl (fun ls hl => ?_)
              refine lv_aload_nN hx hb dX3_markHeld_80 rfl (lv_at hl 0 rfl) ?_
              refine lv_ifnullN (tgt := 106) hx hb dX3_markHeld_81 (by decide) ?_
              refine lv_iinc (v := nI r + (-1)) (lv' := [(2, .int (nI r + (-1))), (3, .null), (0, .ref (ad 5 0))]) hx hb dX3_markHeld_106 hl (k := 2) rfl rfl (by decide) rfl (fun ls hl => ?_)
              refine lv_goto (tgt := 69) hx hb dX3_markHeld_109 (by decide) ?_
              exact ih Hd (by omega) (hH.trans (k_hl_n (fun q => by have h9 := hb_79.symm.trans q.1; cases h9))) _ _ hW hS _ (lv_sub hl [2, 0] rfl)
        exact hloop_69 60 (k_H0 (s_th t) (o_nd t) (o_on t) (o_hd t) z) (Nat.le_refl _) rfl _ _ hW hS _ (lv_sub hl [1, 0] rfl)
      · refine lv_aload_n hx hb dX3_markHeld_17 rfl (lv_at hl 2 rfl) ?_
        refine lv_iload hx hb dX3_markHeld_18 (lv_at hl 4 rfl) ?_
        refine k_aald hx hb hK hW (kc_6 g ad (set_o_hd t Hd)) i rfl (by omega) (by decide) dX3_markHeld_20 ?_
        rcases Bool.eq_false_or_eq_true (s_th t i) with hb_21 | hb_21
        · refine k_tov (y := .ref (ad 25 i)) (congrArg va_rf (if_pos hb_21)) ?_
          refine lv_astore (lv' := [(5, .ref (ad 25 i)), (0, .ref (ad 5 0)), (1, .int z), (2, .ref (ad 6 0)), (3, .int (nI 60)), (4, .int (nI i))]) hx hb dX3_markHeld_21 hl (by decide) rfl (fun ls hl => ?_)
          refine lv_aload hx hb dX3_markHeld_23 (lv_at hl 0 rfl) ?_
          refine lv_ifnull hx hb dX3_markHeld_25 ?_
          refine lv_aload hx hb dX3_markHeld_28 (lv_at hl 0 rfl) ?_
          refine lv_aload hx hb dX3_markHeld_30 (lv_at hl 0 rfl) ?_
          refine k_getN (host := RX4) (index := 38) (own := RX3) (C := RX0) (T := TX0) (N := 11) hx hb hts hinX0 hown hK hW (kc_25 g ad (set_o_hd t Hd) (hwf _ hb_21)) rfl 9 (by decide) (by decide +kernel) rfl (v := .int (kb (o_nd t i))) rfl dX3_markHeld_32 ?_
          refine k_ifz_ne (tgt := 47) hx hb dX3_markHeld_35 (by decide) (fun h_35 => ?_) (fun h_35 => ?_)
          · refine lv_iconst (v := nI 1) hx hb dX3_markHeld_47 (by decide) ?_
            refine lv_goto (tgt := 52) hx hb dX3_markHeld_48 (by decide) ?_
            refine k_putN (host := RX4) (index := 66) (own := RX3) (C := RX0) (T := TX0) (N := 11) hx hb hts hinX0 tyX0 tyX0_ok nmX0 hown hK hW hS (kc_25 g ad (set_o_hd t Hd) (hwf _ hb_21)) rfl 10 (by decide) (by decide +kernel) rfl rfl (ty := tyX0 10) (v := .int (nI 1)) (tyX0_ok 10 (by decide)) rfl rfl (Nat.le_of_ble_eq_true rfl) dX3_markHeld_52 (fun H locs hW hS => ?_)
            have hW : k_H g ad (set_o_hd t (va_up Hd i true)) H := kt_o_hd (t := set_o_hd t Hd) i (hwf _ hb_21) true rfl hW
            refine lv_iinc (v := nI (i + 1)) (lv' := [(4, .int (nI (i + 1))), (5, .ref (ad 25 i)), (0, .ref (ad 5 0)), (1, .int z), (2, .ref (ad 6 0)), (3, .int (nI 60))]) hx hb dX3_markHeld_55 hl (k := 5) rfl (nI_add _ _) (by decide) rfl (fun ls hl => ?_)
            refine lv_goto (tgt := 11) hx hb dX3_markHeld_58 (by decide) ?_
            exact ih (i + 1) (va_up Hd i true) (by omega) (by omega) (k_rs hH hb_21 (k_or_t (Or.inl h_35))) _ _ hW hS _ (lv_sub hl [2, 3, 4, 5, 0] rfl)
          · refine lv_aload hx hb dX3_markHeld_38 (lv_at hl 0 rfl) ?_
            refine k_getN (host := RX4) (index := 72) (own := RX3) (C := RX0) (T := TX0) (N := 11) hx hb hts hinX0 hown hK hW (kc_25 g ad (set_o_hd t Hd) (hwf _ hb_21)) rfl 1 (by decide) (by decide +kernel) rfl (v := .int (nI (o_on t i))) rfl dX3_markHeld_40 ?_
            refine lv_iload_n hx hb dX3_markHeld_43 rfl (lv_at hl 2 rfl) ?_
            refine lv_icmp_lt (tgt := 51) hx hb dX3_markHeld_44 (by decide) (fun h_44 => ?_) (fun h_44 => ?_)
            · refine lv_iconst (v := nI 0) hx hb dX3_markHeld_51 (by decide) ?_
              refine k_putN (host := RX4) (index := 66) (own := RX3) (C := RX0) (T := TX0) (N := 11) hx hb hts hinX0 tyX0 tyX0_ok nmX0 hown hK hW hS (kc_25 g ad (set_o_hd t Hd) (hwf _ hb_21)) rfl 10 (by decide) (by decide +kernel) rfl rfl (ty := tyX0 10) (v := .int (nI 0)) (tyX0_ok 10 (by decide)) rfl rfl (Nat.le_of_ble_eq_true rfl) dX3_markHeld_52 (fun H locs hW hS => ?_)
              have hW : k_H g ad (set_o_hd t (va_up Hd i false)) H := kt_o_hd (t := set_o_hd t Hd) i (hwf _ hb_21) false rfl hW
              refine lv_iinc (v := nI (i + 1)) (lv' := [(4, .int (nI (i + 1))), (5, .ref (ad 25 i)), (0, .ref (ad 5 0)), (1, .int z), (2, .ref (ad 6 0)), (3, .int (nI 60))]) hx hb dX3_markHeld_55 hl (k := 5) rfl (nI_add _ _) (by decide) rfl (fun ls hl => ?_)
              refine lv_goto (tgt := 11) hx hb dX3_markHeld_58 (by decide) ?_
              exact ih (i + 1) (va_up Hd i false) (by omega) (by omega) (k_rs hH hb_21 (k_or_f h_35 h_44)) _ _ hW hS _ (lv_sub hl [2, 3, 4, 5, 0] rfl)
            · refine lv_iconst (v := nI 1) hx hb dX3_markHeld_47 (by decide) ?_
              refine lv_goto (tgt := 52) hx hb dX3_markHeld_48 (by decide) ?_
              refine k_putN (host := RX4) (index := 66) (own := RX3) (C := RX0) (T := TX0) (N := 11) hx hb hts hinX0 tyX0 tyX0_ok nmX0 hown hK hW hS (kc_25 g ad (set_o_hd t Hd) (hwf _ hb_21)) rfl 10 (by decide) (by decide +kernel) rfl rfl (ty := tyX0 10) (v := .int (nI 1)) (tyX0_ok 10 (by decide)) rfl rfl (Nat.le_of_ble_eq_true rfl) dX3_markHeld_52 (fun H locs hW hS => ?_)
              have hW : k_H g ad (set_o_hd t (va_up Hd i true)) H := kt_o_hd (t := set_o_hd t Hd) i (hwf _ hb_21) true rfl hW
              refine lv_iinc (v := nI (i + 1)) (lv' := [(4, .int (nI (i + 1))), (5, .ref (ad 25 i)), (0, .ref (ad 5 0)), (1, .int z), (2, .ref (ad 6 0)), (3, .int (nI 60))]) hx hb dX3_markHeld_55 hl (k := 5) rfl (nI_add _ _) (by decide) rfl (fun ls hl => ?_)
              refine lv_goto (tgt := 11) hx hb dX3_markHeld_58 (by decide) ?_
              exact ih (i + 1) (va_up Hd i true) (by omega) (by omega) (k_rs hH hb_21 (k_or_t (Or.inr h_44))) _ _ hW hS _ (lv_sub hl [2, 3, 4, 5, 0] rfl)
        · refine k_tov (y := .null) (congrArg va_rf (if_neg (fun q => absurd (hb_21.symm.trans q) (by decide)))) ?_
          refine lv_astoreN (lv' := [(5, .null), (0, .ref (ad 5 0)), (1, .int z), (2, .ref (ad 6 0)), (3, .int (nI 60)), (4, .int (nI i))]) hx hb dX3_markHeld_21 hl (by decide) rfl (fun ls hl => ?_)
          refine lv_aloadN hx hb dX3_markHeld_23 (lv_at hl 0 rfl) ?_
          refine lv_ifnullN (tgt := 55) hx hb dX3_markHeld_25 (by decide) ?_
          refine lv_iinc (v := nI (i + 1)) (lv' := [(4, .int (nI (i + 1))), (5, .null), (0, .ref (ad 5 0)), (1, .int z), (2, .ref (ad 6 0)), (3, .int (nI 60))]) hx hb dX3_markHeld_55 hl (k := 5) rfl (nI_add _ _) (by decide) rfl (fun ls hl => ?_)
          refine lv_goto (tgt := 11) hx hb dX3_markHeld_58 (by decide) ?_
          exact ih (i + 1) Hd (by omega) (by omega) (k_rs_n hH hb_21) _ _ hW hS _ (lv_sub hl [2, 3, 4, 5, 0] rfl)
  exact hloop_11 61 0 (o_hd t) (by omega) (by omega) k_rs_0 _ _ hW hS _ (lv_sub hl [3, 4, 2, 1, 0] rfl)
abbrev rm_X3_takeOffLoose : Room := { frames := 3, cells := 0, slots := 0, locals := 71 }
set_option maxRecDepth 100000 in
set_option maxHeartbeats 4000000 in
theorem c_X3_takeOffLoose (l : Launch) (hlt : l.stackTraces = false) (g : k_g) (ad : k_AD) (t : k_T) (hwf : ∀ j, s_th t j = true → j < o_n t) (hbs : ∀ k b, k < o_n t → o_b t k = some b → b < o_n t ∧ b < k) (hth : ∀ j b, s_th t j = true → o_b t j = some b → s_th t b = true) (hn60 : o_n t ≤ 60) (hon : ∀ j, j < o_n t → o_on t j ≤ 360) (hr1 : s_r1 t ≤ 30) (hr2 : s_r2 t ≤ 30) (hr3 : s_r3 t ≤ 30) : Met l yX3_takeOffLoose wsX3_takeOffLoose rm_X3_takeOffLoose (va_Pc [.ref (ad 5 0)] (k_I g (k_ct g ad t) ad)) (va_Qi (fun r u => r = nI (k_sm (fun k => (s_th t) k && !(k_Hd (s_th t) (k_Nm (s_th t) (o_nd t) (k_Pm (s_th t) (o_pm t) (o_on t) (s_r1 t) (s_r2 t) (s_r3 t)) (o_b t)) (o_b t) (o_on t) (o_hd t) (k_lp (fun k => (s_th t) k && (o_pv t) k) (o_on t) 60)) k) (fun k => (o_kc t) k + 1) 60) ∧ u = set_s_th (set_o_hd (set_o_nd (set_o_pm t (k_Pm (s_th t) (o_pm t) (o_on t) (s_r1 t) (s_r2 t) (s_r3 t))) (k_Nm (s_th t) (o_nd t) (k_Pm (s_th t) (o_pm t) (o_on t) (s_r1 t) (s_r2 t) (s_r3 t)) (o_b t))) (k_Hd (s_th t) (k_Nm (s_th t) (o_nd t) (k_Pm (s_th t) (o_pm t) (o_on t) (s_r1 t) (s_r2 t) (s_r3 t)) (o_b t)) (o_b t) (o_on t) (o_hd t) (k_lp (fun k => (s_th t) k && (o_pv t) k) (o_on t) 60))) (fun j => (s_th t) j && (k_Hd (s_th t) (k_Nm (s_th t) (o_nd t) (k_Pm (s_th t) (o_pm t) (o_on t) (s_r1 t) (s_r2 t) (s_r3 t)) (o_b t)) (o_b t) (o_on t) (o_hd t) (k_lp (fun k => (s_th t) k && (o_pv t) k) (o_on t) 60)) j)) (fun u U => k_H g ad u U.heap) (k_A g)) 0 0 (k_A g) := by
  refine k_met (cc := cX3_takeOffLoose) (maxL := 4) (ret := (some .int)) (by decide) rfl (Nat.le_of_ble_eq_true rfl) (fun p e s m args below meth c Q ls hQ hx hb hr hml hts hown hlk hin hK hZ hN hW hS hl => ?_)
  have hown : s.vm.findClass RX3 = some m.cls := hown
  have hW : k_H g ad t s.heap := hW
  have hl : lv_has ls 4 [(0, .ref (ad 5 0))] := hl
  have hinX0 : ∀ w ∈ wsX00, w ∈ wsX3_takeOffLoose := by decide +kernel
  have hinX3 : ∀ w ∈ wsX30, w ∈ wsX3_takeOffLoose := by decide +kernel
  refine lv_aload_n hx hb dX3_takeOffLoose_0 rfl (lv_at hl 0 rfl) ?_
  refine k_cv (va_runV (As := []) (rest := []) ⟨hx, hb, hml, hown, hts⟩ (c_X3_markGenerations l hlt g ad t hwf hbs hth hn60 hon hr1 hr2 hr3) (cwV 0 hts gX3_takeOffLoose_X3_markGenerations rfl rfl rfl (by decide +kernel) ⟨(Nat.le_of_ble_eq_true rfl), (Nat.le_of_ble_eq_true rfl)⟩) ⟨k_blind, k_recv hK hW (kc_5 g ad t) rfl, fun U hU hw => ⟨rfl, k_I.of hK hZ hN hS hW hU hw⟩⟩ rfl rfl hl.1 rfl (lv_room (Nat.le_of_ble_eq_true rfl)) dX3_takeOffLoose_1 ⟨(Nat.le_of_ble_eq_true rfl), (Nat.le_of_ble_eq_true rfl)⟩) hS (fun u H locs hpo hW hS => ?_)
  have hu9 := hpo.symm; subst hu9
  have hW : k_H g ad (set_o_nd (set_o_pm t (k_Pm (s_th t) (o_pm t) (o_on t) (s_r1 t) (s_r2 t) (s_r3 t))) (k_Nm (s_th t) (o_nd t) (k_Pm (s_th t) (o_pm t) (o_on t) (s_r1 t) (s_r2 t) (s_r3 t)) (o_b t))) H := hW
  refine lv_aload_n hx hb dX3_takeOffLoose_4 rfl (lv_at hl 0 rfl) ?_
  refine lv_aload_n hx hb dX3_takeOffLoose_5 rfl (lv_at hl 0 rfl) ?_
  refine k_ci (va_runV (As := []) (rest := [.ref (ad 5 0)]) ⟨hx, hb, hml, hown, hts⟩ (c_X3_latestProvedDay l hlt g ad (set_o_nd (set_o_pm t (k_Pm (s_th t) (o_pm t) (o_on t) (s_r1 t) (s_r2 t) (s_r3 t))) (k_Nm (s_th t) (o_nd t) (k_Pm (s_th t) (o_pm t) (o_on t) (s_r1 t) (s_r2 t) (s_r3 t)) (o_b t))) hwf) (cwV 0 hts gX3_takeOffLoose_X3_latestProvedDay rfl rfl rfl (by decide +kernel) ⟨(Nat.le_of_ble_eq_true rfl), (Nat.le_of_ble_eq_true rfl)⟩) ⟨k_blind, k_recv hK hW (kc_5 g ad (set_o_nd (set_o_pm t (k_Pm (s_th t) (o_pm t) (o_on t) (s_r1 t) (s_r2 t) (s_r3 t))) (k_Nm (s_th t) (o_nd t) (k_Pm (s_th t) (o_pm t) (o_on t) (s_r1 t) (s_r2 t) (s_r3 t)) (o_b t)))) rfl, fun U hU hw => ⟨rfl, k_I.of hK hZ hN hS hW hU hw⟩⟩ rfl rfl hl.1 rfl (lv_room (Nat.le_of_ble_eq_true rfl)) dX3_takeOffLoose_6 ⟨(Nat.le_of_ble_eq_true rfl), (Nat.le_of_ble_eq_true rfl)⟩) hS (fun r u H locs hpo hW hS => ?_)
  obtain ⟨hr9, hu9⟩ := hpo; replace hu9 := hu9.symm; subst hu9; replace hr9 := hr9.symm; subst hr9
  refine k_cv (va_runV (As := [.int (k_lp (fun k => (s_th t) k && (o_pv t) k) (o_on t) 60)]) (rest := []) ⟨hx, hb, hml, hown, hts⟩ (c_X3_markHeld l hlt g ad (set_o_nd (set_o_pm t (k_Pm (s_th t) (o_pm t) (o_on t) (s_r1 t) (s_r2 t) (s_r3 t))) (k_Nm (s_th t) (o_nd t) (k_Pm (s_th t) (o_pm t) (o_on t) (s_r1 t) (s_r2 t) (s_r3 t)) (o_b t))) (k_lp (fun k => (s_th t) k && (o_pv t) k) (o_on t) 60) hwf hbs hn60) (cwV 1 hts gX3_takeOffLoose_X3_markHeld rfl rfl rfl (by decide +kernel) ⟨(Nat.le_of_ble_eq_true rfl), (Nat.le_of_ble_eq_true rfl)⟩) ⟨k_blind, k_recv hK hW (kc_5 g ad (set_o_nd (set_o_pm t (k_Pm (s_th t) (o_pm t) (o_on t) (s_r1 t) (s_r2 t) (s_r3 t))) (k_Nm (s_th t) (o_nd t) (k_Pm (s_th t) (o_pm t) (o_on t) (s_r1 t) (s_r2 t) (s_r3 t)) (o_b t)))) rfl, fun U hU hw => ⟨rfl, k_I.of hK hZ hN hS hW hU hw⟩⟩ rfl rfl hl.1 rfl (lv_room (Nat.le_of_ble_eq_true rfl)) dX3_takeOffLoose_9 ⟨(Nat.le_of_ble_eq_true rfl), (Nat.le_of_ble_eq_true rfl)⟩) hS (fun u H locs hpo hW hS => ?_)
  have hu9 := hpo.symm; subst hu9
  have hW : k_H g ad (set_o_hd (set_o_nd (set_o_pm t (k_Pm (s_th t) (o_pm t) (o_on t) (s_r1 t) (s_r2 t) (s_r3 t))) (k_Nm (s_th t) (o_nd t) (k_Pm (s_th t) (o_pm t) (o_on t) (s_r1 t) (s_r2 t) (s_r3 t)) (o_b t))) (k_Hd (s_th t) (k_Nm (s_th t) (o_nd t) (k_Pm (s_th t) (o_pm t) (o_on t) (s_r1 t) (s_r2 t) (s_r3 t)) (o_b t)) (o_b t) (o_on t) (o_hd t) (k_lp (fun k => (s_th t) k && (o_pv t) k) (o_on t) 60))) H := hW
  refine lv_iconst (v := nI 0) hx hb dX3_takeOffLoose_12 (by decide) ?_
  refine lv_istore_n (lv' := [(1, .int (nI 0)), (0, .ref (ad 5 0))]) hx hb dX3_takeOffLoose_13 rfl hl (by decide) rfl (fun ls hl => ?_)
  refine lv_iconst (v := nI 0) hx hb dX3_takeOffLoose_14 (by decide) ?_
  refine lv_istore_n (lv' := [(2, .int (nI 0)), (1, .int (nI 0)), (0, .ref (ad 5 0))]) hx hb dX3_takeOffLoose_15 rfl hl (by decide) rfl (fun ls hl => ?_)
  have hloop_16 : ∀ (n : Nat) (i : Nat) (th1 : Nat → Bool) (cn : Nat), (60 < i + n) → (i ≤ 60) → (∀ j, th1 j = if j < i then (s_th t j && (k_Hd (s_th t) (k_Nm (s_th t) (o_nd t) (k_Pm (s_th t) (o_pm t) (o_on t) (s_r1 t) (s_r2 t) (s_r3 t)) (o_b t)) (o_b t) (o_on t) (o_hd t) (k_lp (fun k => (s_th t) k && (o_pv t) k) (o_on t) 60)) j) else s_th t j) → (cn = k_sm (fun k => (s_th t) k && !(k_Hd (s_th t) (k_Nm (s_th t) (o_nd t) (k_Pm (s_th t) (o_pm t) (o_on t) (s_r1 t) (s_r2 t) (s_r3 t)) (o_b t)) (o_b t) (o_on t) (o_hd t) (k_lp (fun k => (s_th t) k && (o_pv t) k) (o_on t) 60)) k) (fun k => (o_kc t) k + 1) i) → ∀ (H : Heap) (locs : List Loc), k_H g ad (set_s_th (set_o_hd (set_o_nd (set_o_pm t (k_Pm (s_th t) (o_pm t) (o_on t) (s_r1 t) (s_r2 t) (s_r3 t))) (k_Nm (s_th t) (o_nd t) (k_Pm (s_th t) (o_pm t) (o_on t) (s_r1 t) (s_r2 t) (s_r3 t)) (o_b t))) (k_Hd (s_th t) (k_Nm (s_th t) (o_nd t) (k_Pm (s_th t) (o_pm t) (o_on t) (s_r1 t) (s_r2 t) (s_r3 t)) (o_b t)) (o_b t) (o_on t) (o_hd t) (k_lp (fun k => (s_th t) k && (o_pv t) k) (o_on t) 60))) th1) H → va_S (k_A g) s.heap H locs → ∀ (ls : Array Slot), lv_has ls 4 [(0, .ref (ad 5 0)), (1, .int (nI cn)), (2, .int (nI i))] → W p l e rm_X3_takeOffLoose s m args below meth c H locs 0 0 Q (F0 m 16 ls []) := by
    intro n
    induction n with
    | zero =>
      intro i th1 cn hfu hi hT hcn
      exact absurd hfu (by omega)
    | succ n ih =>
      intro i th1 cn hfu hi hT hcn H locs hW hS ls hl
      refine lv_iload_n hx hb dX3_takeOffLoose_16 rfl (lv_at hl 2 rfl) ?_
      refine lv_aload_n hx hb dX3_takeOffLoose_17 rfl (lv_at hl 0 rfl) ?_
      refine k_get (own := RX3) (C := RX3) (T := TX3) (N := 5) hx hb hts hinX3 hown hK hW (kc_5 g ad (set_s_th (set_o_hd (set_o_nd (set_o_pm t (k_Pm (s_th t) (o_pm t) (o_on t) (s_r1 t) (s_r2 t) (s_r3 t))) (k_Nm (s_th t) (o_nd t) (k_Pm (s_th t) (o_pm t) (o_on t) (s_r1 t) (s_r2 t) (s_r3 t)) (o_b t))) (k_Hd (s_th t) (k_Nm (s_th t) (o_nd t) (k_Pm (s_th t) (o_pm t) (o_on t) (s_r1 t) (s_r2 t) (s_r3 t)) (o_b t)) (o_b t) (o_on t) (o_hd t) (k_lp (fun k => (s_th t) k && (o_pv t) k) (o_on t) 60))) th1)) rfl 0 (by decide) (hts (.fieldLink RX3 11 "DrillVault$Shelf" "rows" "[LDrillVault$Copy;") (by decide +kernel)) rfl (v := .ref (ad 6 0)) rfl dX3_takeOffLoose_18 ?_
      refine k_alen hx hb hK hW 3 rfl (kc_6 g ad (set_s_th (set_o_hd (set_o_nd (set_o_pm t (k_Pm (s_th t) (o_pm t) (o_on t) (s_r1 t) (s_r2 t) (s_r3 t))) (k_Nm (s_th t) (o_nd t) (k_Pm (s_th t) (o_pm t) (o_on t) (s_r1 t) (s_r2 t) (s_r3 t)) (o_b t))) (k_Hd (s_th t) (k_Nm (s_th t) (o_nd t) (k_Pm (s_th t) (o_pm t) (o_on t) (s_r1 t) (s_r2 t) (s_r3 t)) (o_b t)) (o_b t) (o_on t) (o_hd t) (k_lp (fun k => (s_th t) k && (o_pv t) k) (o_on t) 60))) th1)) (v := nI 60) rfl dX3_takeOffLoose_21 ?_
      refine k_icmp_ge (tgt := 63) hx hb (a := i) (b := 60) (by omega) (by decide) dX3_takeOffLoose_22 (by decide) (fun h_22 => ?_) (fun h_22 => ?_)
      · refine lv_iload_n hx hb dX3_takeOffLoose_63 rfl (lv_at hl 1 rfl) ?_
        exact k_ri hQ hx hb hr hlk hS hW ⟨by rw [hcn, show i = 60 by omega], by rw [show th1 = (fun j => s_th t j && (k_Hd (s_th t) (k_Nm (s_th t) (o_nd t) (k_Pm (s_th t) (o_pm t) (o_on t) (s_r1 t) (s_r2 t) (s_r3 t)) (o_b t)) (o_b t) (o_on t) (o_hd t) (k_lp (fun k => (s_th t) k && (o_pv t) k) (o_on t) 60)) j) from k_th_e hT hwf (show o_n t ≤ i by omega)]⟩ (Nat.le_of_ble_eq_true rfl) (Nat.le_of_ble_eq_true rfl) dX3_takeOffLoose_64
      · refine lv_aload_n hx hb dX3_takeOffLoose_25 rfl (lv_at hl 0 rfl) ?_
        refine k_get (own := RX3) (C := RX3) (T := TX3) (N := 5) hx hb hts hinX3 hown hK hW (kc_5 g ad (set_s_th (set_o_hd (set_o_nd (set_o_pm t (k_Pm (s_th t) (o_pm t) (o_on t) (s_r1 t) (s_r2 t) (s_r3 t))) (k_Nm (s_th t) (o_nd t) (k_Pm (s_th t) (o_pm t) (o_on t) (s_r1 t) (s_r2 t) (s_r3 t)) (o_b t))) (k_Hd (s_th t) (k_Nm (s_th t) (o_nd t) (k_Pm (s_th t) (o_pm t) (o_on t) (s_r1 t) (s_r2 t) (s_r3 t)) (o_b t)) (o_b t) (o_on t) (o_hd t) (k_lp (fun k => (s_th t) k && (o_pv t) k) (o_on t) 60))) th1)) rfl 0 (by decide) (hts (.fieldLink RX3 11 "DrillVault$Shelf" "rows" "[LDrillVault$Copy;") (by decide +kernel)) rfl (v := .ref (ad 6 0)) rfl dX3_takeOffLoose_26 ?_
        refine lv_iload_n hx hb dX3_takeOffLoose_29 rfl (lv_at hl 2 rfl) ?_
        refine k_aald hx hb hK hW (kc_6 g ad (set_s_th (set_o_hd (set_o_nd (set_o_pm t (k_Pm (s_th t) (o_pm t) (o_on t) (s_r1 t) (s_r2 t) (s_r3 t))) (k_Nm (s_th t) (o_nd t) (k_Pm (s_th t) (o_pm t) (o_on t) (s_r1 t) (s_r2 t) (s_r3 t)) (o_b t))) (k_Hd (s_th t) (k_Nm (s_th t) (o_nd t) (k_Pm (s_th t) (o_pm t) (o_on t) (s_r1 t) (s_r2 t) (s_r3 t)) (o_b t)) (o_b t) (o_on t) (o_hd t) (k_lp (fun k => (s_th t) k && (o_pv t) k) (o_on t) 60))) th1)) i rfl (by omega) (by decide) dX3_takeOffLoose_30 ?_
        rcases Bool.eq_false_or_eq_true (th1 i) with hb_31 | hb_31
        · refine k_tov (y := .ref (ad 25 i)) (congrArg va_rf (if_pos hb_31)) ?_
          refine lv_astore_n (lv' := [(3, .ref (ad 25 i)), (0, .ref (ad 5 0)), (1, .int (nI cn)), (2, .int (nI i))]) hx hb dX3_takeOffLoose_31 rfl hl (by decide) rfl (fun ls hl => ?_)
          refine lv_aload_n hx hb dX3_takeOffLoose_32 rfl (lv_at hl 0 rfl) ?_
          refine lv_ifnull hx hb dX3_takeOffLoose_33 ?_
          refine lv_aload_n hx hb dX3_takeOffLoose_36 rfl (lv_at hl 0 rfl) ?_
          refine k_getN (host := RX4) (index := 66) (own := RX3) (C := RX0) (T := TX0) (N := 11) hx hb hts hinX0 hown hK hW (kc_25 g ad (set_s_th (set_o_hd (set_o_nd (set_o_pm t (k_Pm (s_th t) (o_pm t) (o_on t) (s_r1 t) (s_r2 t) (s_r3 t))) (k_Nm (s_th t) (o_nd t) (k_Pm (s_th t) (o_pm t) (o_on t) (s_r1 t) (s_r2 t) (s_r3 t)) (o_b t))) (k_Hd (s_th t) (k_Nm (s_th t) (o_nd t) (k_Pm (s_th t) (o_pm t) (o_on t) (s_r1 t) (s_r2 t) (s_r3 t)) (o_b t)) (o_b t) (o_on t) (o_hd t) (k_lp (fun k => (s_th t) k && (o_pv t) k) (o_on t) 60))) th1) (hwf _ (k_thi hT hb_31))) rfl 10 (by decide) (by decide +kernel) rfl (v := .int (kb ((k_Hd (s_th t) (k_Nm (s_th t) (o_nd t) (k_Pm (s_th t) (o_pm t) (o_on t) (s_r1 t) (s_r2 t) (s_r3 t)) (o_b t)) (o_b t) (o_on t) (o_hd t) (k_lp (fun k => (s_th t) k && (o_pv t) k) (o_on t) 60)) i))) rfl dX3_takeOffLoose_37 ?_
          refine k_ifz_ne (tgt := 57) hx hb dX3_takeOffLoose_40 (by decide) (fun h_40 => ?_) (fun h_40 => ?_)
          · refine lv_iinc (v := nI (i + 1)) (lv' := [(2, .int (nI (i + 1))), (3, .ref (ad 25 i)), (0, .ref (ad 5 0)), (1, .int (nI cn))]) hx hb dX3_takeOffLoose_57 hl (k := 3) rfl (nI_add _ _) (by decide) rfl (fun ls hl => ?_)
            refine lv_goto (tgt := 16) hx hb dX3_takeOffLoose_60 (by decide) ?_
            exact ih (i + 1) th1 cn (by omega) (by omega) (k_th_on hT (Or.inr h_40)) (by rw [k_sm_n (show (s_th t i && !_) = false by rw [k_thi hT hb_31, h_40]; rfl), hcn]) _ _ hW hS _ (lv_sub hl [2, 3, 0] rfl)
          · refine lv_iload_n hx hb dX3_takeOffLoose_43 rfl (lv_at hl 2 rfl) ?_
            refine lv_aload_n hx hb dX3_takeOffLoose_44 rfl (lv_at hl 0 rfl) ?_
            refine k_ci (va_runV (As := []) (rest := [.int (nI cn)]) ⟨hx, hb, hml, hown, hts⟩ (c_X0_spaceTaken l hlt g ad (set_s_th (set_o_hd (set_o_nd (set_o_pm t (k_Pm (s_th t) (o_pm t) (o_on t) (s_r1 t) (s_r2 t) (s_r3 t))) (k_Nm (s_th t) (o_nd t) (k_Pm (s_th t) (o_pm t) (o_on t) (s_r1 t) (s_r2 t) (s_r3 t)) (o_b t))) (k_Hd (s_th t) (k_Nm (s_th t) (o_nd t) (k_Pm (s_th t) (o_pm t) (o_on t) (s_r1 t) (s_r2 t) (s_r3 t)) (o_b t)) (o_b t) (o_on t) (o_hd t) (k_lp (fun k => (s_th t) k && (o_pv t) k) (o_on t) 60))) th1) i (hwf _ (k_thi hT hb_31))) (cwV 0 hts gX3_takeOffLoose_X0_spaceTaken rfl rfl rfl (by decide +kernel) ⟨(Nat.le_of_ble_eq_true rfl), (Nat.le_of_ble_eq_true rfl)⟩) ⟨k_blind, k_recv hK hW (kc_25 g ad (set_s_th (set_o_hd (set_o_nd (set_o_pm t (k_Pm (s_th t) (o_pm t) (o_on t) (s_r1 t) (s_r2 t) (s_r3 t))) (k_Nm (s_th t) (o_nd t) (k_Pm (s_th t) (o_pm t) (o_on t) (s_r1 t) (s_r2 t) (s_r3 t)) (o_b t))) (k_Hd (s_th t) (k_Nm (s_th t) (o_nd t) (k_Pm (s_th t) (o_pm t) (o_on t) (s_r1 t) (s_r2 t) (s_r3 t)) (o_b t)) (o_b t) (o_on t) (o_hd t) (k_lp (fun k => (s_th t) k && (o_pv t) k) (o_on t) 60))) th1) (hwf _ (k_thi hT hb_31))) rfl, fun U hU hw => ⟨rfl, k_I.of hK hZ hN hS hW hU hw⟩⟩ rfl rfl hl.1 rfl (lv_room (Nat.le_of_ble_eq_true rfl)) dX3_takeOffLoose_45 ⟨(Nat.le_of_ble_eq_true rfl), (Nat.le_of_ble_eq_true rfl)⟩) hS (fun r u H locs hpo hW hS => ?_)
            obtain ⟨hr9, hu9⟩ := hpo; replace hu9 := hu9.symm; subst hu9; replace hr9 := hr9.symm; subst hr9
            refine k_iadd hx hb dX3_takeOffLoose_48 ?_
            refine lv_istore_n (lv' := [(1, .int (nI (cn + (o_kc t i + 1)))), (3, .ref (ad 25 i)), (0, .ref (ad 5 0)), (2, .int (nI i))]) hx hb dX3_takeOffLoose_49 rfl hl (by decide) rfl (fun ls hl => ?_)
            refine lv_aload_n hx hb dX3_takeOffLoose_50 rfl (lv_at hl 2 rfl) ?_
            refine k_get (own := RX3) (C := RX3) (T := TX3) (N := 5) hx hb hts hinX3 hown hK hW (kc_5 g ad (set_s_th (set_o_hd (set_o_nd (set_o_pm t (k_Pm (s_th t) (o_pm t) (o_on t) (s_r1 t) (s_r2 t) (s_r3 t))) (k_Nm (s_th t) (o_nd t) (k_Pm (s_th t) (o_pm t) (o_on t) (s_r1 t) (s_r2 t) (s_r3 t)) (o_b t))) (k_Hd (s_th t) (k_Nm (s_th t) (o_nd t) (k_Pm (s_th t) (o_pm t) (o_on t) (s_r1 t) (s_r2 t) (s_r3 t)) (o_b t)) (o_b t) (o_on t) (o_hd t) (k_lp (fun k => (s_th t) k && (o_pv t) k) (o_on t) 60))) th1)) rfl 0 (by decide) (hts (.fieldLink RX3 11 "DrillVault$Shelf" "rows" "[LDrillVault$Copy;") (by decide +kernel)) rfl (v := .ref (ad 6 0)) rfl dX3_takeOffLoose_51 ?_
            refine lv_iload_n hx hb dX3_takeOffLoose_54 rfl (lv_at hl 3 rfl) ?_
            refine lv_null hx hb dX3_takeOffLoose_55 ?_
            refine k_aastN hx hb hK hW hS (kc_6 g ad (set_s_th (set_o_hd (set_o_nd (set_o_pm t (k_Pm (s_th t) (o_pm t) (o_on t) (s_r1 t) (s_r2 t) (s_r3 t))) (k_Nm (s_th t) (o_nd t) (k_Pm (s_th t) (o_pm t) (o_on t) (s_r1 t) (s_r2 t) (s_r3 t)) (o_b t))) (k_Hd (s_th t) (k_Nm (s_th t) (o_nd t) (k_Pm (s_th t) (o_pm t) (o_on t) (s_r1 t) (s_r2 t) (s_r3 t)) (o_b t)) (o_b t) (o_on t) (o_hd t) (k_lp (fun k => (s_th t) k && (o_pv t) k) (o_on t) 60))) th1)) i rfl (by omega) (by decide) dX3_takeOffLoose_56 (fun H locs hW hS => ?_)
            have hW : k_H g ad (set_s_th (set_o_hd (set_o_nd (set_o_pm t (k_Pm (s_th t) (o_pm t) (o_on t) (s_r1 t) (s_r2 t) (s_r3 t))) (k_Nm (s_th t) (o_nd t) (k_Pm (s_th t) (o_pm t) (o_on t) (s_r1 t) (s_r2 t) (s_r3 t)) (o_b t))) (k_Hd (s_th t) (k_Nm (s_th t) (o_nd t) (k_Pm (s_th t) (o_pm t) (o_on t) (s_r1 t) (s_r2 t) (s_r3 t)) (o_b t)) (o_b t) (o_on t) (o_hd t) (k_lp (fun k => (s_th t) k && (o_pv t) k) (o_on t) 60))) (va_up th1 i false)) H := kt_s_th0 (t := set_s_th (set_o_hd (set_o_nd (set_o_pm t (k_Pm (s_th t) (o_pm t) (o_on t) (s_r1 t) (s_r2 t) (s_r3 t))) (k_Nm (s_th t) (o_nd t) (k_Pm (s_th t) (o_pm t) (o_on t) (s_r1 t) (s_r2 t) (s_r3 t)) (o_b t))) (k_Hd (s_th t) (k_Nm (s_th t) (o_nd t) (k_Pm (s_th t) (o_pm t) (o_on t) (s_r1 t) (s_r2 t) (s_r3 t)) (o_b t)) (o_b t) (o_on t) (o_hd t) (k_lp (fun k => (s_th t) k && (o_pv t) k) (o_on t) 60))) th1) i hW
            refine lv_iinc (v := nI (i + 1)) (lv' := [(2, .int (nI (i + 1))), (1, .int (nI (cn + (o_kc t i + 1)))), (3, .ref (ad 25 i)), (0, .ref (ad 5 0))]) hx hb dX3_takeOffLoose_57 hl (k := 3) rfl (nI_add _ _) (by decide) rfl (fun ls hl => ?_)
            refine lv_goto (tgt := 16) hx hb dX3_takeOffLoose_60 (by decide) ?_
            exact ih (i + 1) (va_up th1 i false) (cn + (o_kc t i + 1)) (by omega) (by omega) (k_th_off hT h_40) (by rw [k_sm_y (show (s_th t i && !_) = true by rw [k_thi hT hb_31, h_40]; rfl), hcn]) _ _ hW hS _ (lv_sub hl [3, 1, 0] rfl)
        · refine k_tov (y := .null) (congrArg va_rf (if_neg (fun q => absurd (hb_31.symm.trans q) (by decide)))) ?_
          refine lv_astore_nN (lv' := [(3, .null), (0, .ref (ad 5 0)), (1, .int (nI cn)), (2, .int (nI i))]) hx hb dX3_takeOffLoose_31 rfl hl (by decide) rfl (fun ls hl => ?_)
          refine lv_aload_nN hx hb dX3_takeOffLoose_32 rfl (lv_at hl 0 rfl) ?_
          refine lv_ifnullN (tgt := 57) hx hb dX3_takeOffLoose_33 (by decide) ?_
          refine lv_iinc (v := nI (i + 1)) (lv' := [(2, .int (nI (i + 1))), (3, .null), (0, .ref (ad 5 0)), (1, .int (nI cn))]) hx hb dX3_takeOffLoose_57 hl (k := 3) rfl (nI_add _ _) (by decide) rfl (fun ls hl => ?_)
          refine lv_goto (tgt := 16) hx hb dX3_takeOffLoose_60 (by decide) ?_
          exact ih (i + 1) th1 cn (by omega) (by omega) (k_th_on hT (Or.inl (by rw [← hb_31, hT i, if_neg (Nat.lt_irrefl i)]))) (by rw [k_sm_n (show (s_th t i && !_) = false by rw [show s_th t i = false by rw [← hb_31, hT i, if_neg (Nat.lt_irrefl i)]]; rfl), hcn]) _ _ hW hS _ (lv_sub hl [2, 3, 0] rfl)
  exact hloop_16 61 0 (s_th t) 0 (by omega) (by omega) (fun j => by rw [if_neg (Nat.not_lt_zero j)]) rfl _ _ hW hS _ (lv_sub hl [2, 1, 0] rfl)
