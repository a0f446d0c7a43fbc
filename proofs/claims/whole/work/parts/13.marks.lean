abbrev rm_X0_periodOf : Room := { frames := 0, cells := 0, slots := 0, locals := 0 }
set_option maxRecDepth 100000 in
set_option maxHeartbeats 4000000 in
theorem c_X0_periodOf_0 (l : Launch) (hlt : l.stackTraces = false) (g : k_g) (ad : k_AD) (t : k_T) (k : Nat) (hk : k < o_n t) (hd : o_on t k ≤ 360) : Met l yX0_periodOf wsX0_periodOf rm_X0_periodOf (va_Pc [.ref (ad 25 k), .int (nI 0)] (k_I g (k_ct g ad t) ad)) (va_Qi (fun r u => r = nI (k_pd 0 (o_on t k)) ∧ u = t) (fun u U => k_H g ad u U.heap) (k_A g)) 0 0 (k_A g) := by
  refine k_met (cc := cX0_periodOf) (maxL := 2) (ret := (some .int)) (by decide) rfl (Nat.le_of_ble_eq_true rfl) (fun p e s m args below meth c Q ls hQ hx hb hr hml hts hown hlk hin hK hZ hN hW hS hl => ?_)
  have hown : s.vm.findClass RX0 = some m.cls := hown
  have hW : k_H g ad t s.heap := hW
  have hl : lv_has ls 2 [(0, .ref (ad 25 k)), (1, .int (nI 0))] := hl
  have hinX0 : ∀ w ∈ wsX00, w ∈ wsX0_periodOf := by decide +kernel
  refine lv_iload_n hx hb dX0_periodOf_0 rfl (lv_at hl 1 rfl) ?_
  refine lv_lookup (off := 43) (tgt := 44) hx hb dX0_periodOf_1 (by decide) (by decide) (by decide) ?_
  refine lv_aload_n hx hb dX0_periodOf_44 rfl (lv_at hl 0 rfl) ?_
  refine k_get (own := RX0) (C := RX0) (T := TX0) (N := 11) hx hb hts hinX0 hown hK hW (kc_25 g ad t hk) rfl 1 (by decide) (hts (.fieldLink RX0 19 "DrillVault$Copy" "madeOn" "I") (by decide +kernel)) rfl (v := .int (nI (o_on t k))) rfl dX0_periodOf_45 ?_
  exact k_ri hQ hx hb hr hlk hS hW ⟨rfl, rfl⟩ (Nat.le_of_ble_eq_true rfl) (Nat.le_of_ble_eq_true rfl) dX0_periodOf_48
set_option maxRecDepth 100000 in
set_option maxHeartbeats 4000000 in
theorem c_X0_periodOf_1 (l : Launch) (hlt : l.stackTraces = false) (g : k_g) (ad : k_AD) (t : k_T) (k : Nat) (hk : k < o_n t) (hd : o_on t k ≤ 360) : Met l yX0_periodOf wsX0_periodOf rm_X0_periodOf (va_Pc [.ref (ad 25 k), .int (nI 1)] (k_I g (k_ct g ad t) ad)) (va_Qi (fun r u => r = nI (k_pd 1 (o_on t k)) ∧ u = t) (fun u U => k_H g ad u U.heap) (k_A g)) 0 0 (k_A g) := by
  refine k_met (cc := cX0_periodOf) (maxL := 2) (ret := (some .int)) (by decide) rfl (Nat.le_of_ble_eq_true rfl) (fun p e s m args below meth c Q ls hQ hx hb hr hml hts hown hlk hin hK hZ hN hW hS hl => ?_)
  have hown : s.vm.findClass RX0 = some m.cls := hown
  have hW : k_H g ad t s.heap := hW
  have hl : lv_has ls 2 [(0, .ref (ad 25 k)), (1, .int (nI 1))] := hl
  have hinX0 : ∀ w ∈ wsX00, w ∈ wsX0_periodOf := by decide +kernel
  refine lv_iload_n hx hb dX0_periodOf_0 rfl (lv_at hl 1 rfl) ?_
  refine lv_lookup (off := 27) (tgt := 28) hx hb dX0_periodOf_1 (by decide) (by decide) (by decide) ?_
  refine lv_aload_n hx hb dX0_periodOf_28 rfl (lv_at hl 0 rfl) ?_
  refine k_get (own := RX0) (C := RX0) (T := TX0) (N := 11) hx hb hts hinX0 hown hK hW (kc_25 g ad t hk) rfl 1 (by decide) (hts (.fieldLink RX0 19 "DrillVault$Copy" "madeOn" "I") (by decide +kernel)) rfl (v := .int (nI (o_on t k))) rfl dX0_periodOf_29 ?_
  refine lv_bipush (v := nI 7) hx hb dX0_periodOf_32 (by decide) ?_
  refine lv_idiv hx hb dX0_periodOf_34 (by decide) ?_
  refine k_toi (pk_div (by omega) (by decide) (by decide)) ?_
  exact k_ri hQ hx hb hr hlk hS hW ⟨rfl, rfl⟩ (Nat.le_of_ble_eq_true rfl) (Nat.le_of_ble_eq_true rfl) dX0_periodOf_35
set_option maxRecDepth 100000 in
set_option maxHeartbeats 4000000 in
theorem c_X0_periodOf_2 (l : Launch) (hlt : l.stackTraces = false) (g : k_g) (ad : k_AD) (t : k_T) (k : Nat) (hk : k < o_n t) (hd : o_on t k ≤ 360) : Met l yX0_periodOf wsX0_periodOf rm_X0_periodOf (va_Pc [.ref (ad 25 k), .int (nI 2)] (k_I g (k_ct g ad t) ad)) (va_Qi (fun r u => r = nI (k_pd 2 (o_on t k)) ∧ u = t) (fun u U => k_H g ad u U.heap) (k_A g)) 0 0 (k_A g) := by
  refine k_met (cc := cX0_periodOf) (maxL := 2) (ret := (some .int)) (by decide) rfl (Nat.le_of_ble_eq_true rfl) (fun p e s m args below meth c Q ls hQ hx hb hr hml hts hown hlk hin hK hZ hN hW hS hl => ?_)
  have hown : s.vm.findClass RX0 = some m.cls := hown
  have hW : k_H g ad t s.heap := hW
  have hl : lv_has ls 2 [(0, .ref (ad 25 k)), (1, .int (nI 2))] := hl
  have hinX0 : ∀ w ∈ wsX00, w ∈ wsX0_periodOf := by decide +kernel
  refine lv_iload_n hx hb dX0_periodOf_0 rfl (lv_at hl 1 rfl) ?_
  refine lv_lookup (off := 35) (tgt := 36) hx hb dX0_periodOf_1 (by decide) (by decide) (by decide) ?_
  refine lv_aload_n hx hb dX0_periodOf_36 rfl (lv_at hl 0 rfl) ?_
  refine k_get (own := RX0) (C := RX0) (T := TX0) (N := 11) hx hb hts hinX0 hown hK hW (kc_25 g ad t hk) rfl 1 (by decide) (hts (.fieldLink RX0 19 "DrillVault$Copy" "madeOn" "I") (by decide +kernel)) rfl (v := .int (nI (o_on t k))) rfl dX0_periodOf_37 ?_
  refine lv_bipush (v := nI 28) hx hb dX0_periodOf_40 (by decide) ?_
  refine lv_idiv hx hb dX0_periodOf_42 (by decide) ?_
  refine k_toi (pk_div (by omega) (by decide) (by decide)) ?_
  exact k_ri hQ hx hb hr hlk hS hW ⟨rfl, rfl⟩ (Nat.le_of_ble_eq_true rfl) (Nat.le_of_ble_eq_true rfl) dX0_periodOf_43
abbrev rm_X3_promiseLatest : Room := { frames := 1, cells := 0, slots := 0, locals := 21 }
set_option maxRecDepth 100000 in
set_option maxHeartbeats 4000000 in
theorem c_X3_promiseLatest_0 (l : Launch) (hlt : l.stackTraces = false) (g : k_g) (ad : k_AD) (t : k_T) (w : Nat) (hw : w ≤ 30) (hwf : ∀ j, s_th t j = true → j < o_n t) (hon : ∀ j, j < o_n t → o_on t j ≤ 360) : Met l yX3_promiseLatest wsX3_promiseLatest rm_X3_promiseLatest (va_Pc [.ref (ad 5 0), .int (nI 0), .int (nI w)] (k_I g (k_ct g ad t) ad)) (va_Qv (fun u => u = set_o_pm t (fun j => o_pm t j || k_sel (s_th t) (fun j => k_pd 0 (o_on t j)) 60 w (-1) j)) (fun u U => k_H g ad u U.heap) (k_A g)) 0 0 (k_A g) := by
  refine k_met (cc := cX3_promiseLatest) (maxL := 7) (ret := none) (by decide) rfl (Nat.le_of_ble_eq_true rfl) (fun p e s m args below meth c Q ls hQ hx hb hr hml hts hown hlk hin hK hZ hN hW hS hl => ?_)
  have hown : s.vm.findClass RX3 = some m.cls := hown
  have hW : k_H g ad t s.heap := hW
  have hl : lv_has ls 7 [(0, .ref (ad 5 0)), (1, .int (nI 0)), (2, .int (nI w))] := hl
  have hinX0 : ∀ w ∈ wsX00, w ∈ wsX3_promiseLatest := by decide +kernel
  have hinX3 : ∀ w ∈ wsX30, w ∈ wsX3_promiseLatest := by decide +kernel
  refine lv_iload_n hx hb dX3_promiseLatest_0 rfl (lv_at hl 2 rfl) ?_
  refine lv_istore_n (lv' := [(3, .int (nI w)), (0, .ref (ad 5 0)), (1, .int (nI 0)), (2, .int (nI w))]) hx hb dX3_promiseLatest_1 rfl hl (by decide) rfl (fun ls hl => ?_)
  refine lv_iconst (v := (-1)) hx hb dX3_promiseLatest_2 (by decide) ?_
  refine lv_istore (lv' := [(4, .int (-1)), (3, .int (nI w)), (0, .ref (ad 5 0)), (1, .int (nI 0)), (2, .int (nI w))]) hx hb dX3_promiseLatest_3 hl (by decide) rfl (fun ls hl => ?_)
  refine lv_aload_n hx hb dX3_promiseLatest_5 rfl (lv_at hl 2 rfl) ?_
  refine k_get (own := RX3) (C := RX3) (T := TX3) (N := 5) hx hb hts hinX3 hown hK hW (kc_5 g ad t) rfl 0 (by decide) (hts (.fieldLink RX3 11 "DrillVault$Shelf" "rows" "[LDrillVault$Copy;") (by decide +kernel)) rfl (v := .ref (ad 6 0)) rfl dX3_promiseLatest_6 ?_
  refine k_alen hx hb hK hW 3 rfl (kc_6 g ad t) (v := nI 60) rfl dX3_promiseLatest_9 ?_
  refine lv_iconst (v := nI 1) hx hb dX3_promiseLatest_10 (by decide) ?_
  refine lv_isub hx hb dX3_promiseLatest_11 ?_
  refine k_toi (k_m1 _) ?_
  refine lv_istore (lv' := [(5, .int (nI 60 + (-1))), (4, .int (-1)), (3, .int (nI w)), (0, .ref (ad 5 0)), (1, .int (nI 0)), (2, .int (nI w))]) hx hb dX3_promiseLatest_12 hl (by decide) rfl (fun ls hl => ?_)
  have hloop_14 : ∀ (r : Nat) (y : Int32) (lf : Nat) (z : Int32) (Pm : Nat → Bool), (r ≤ 60) → (y = nI lf) → (lf ≤ 30) → (∀ j, (fun j => o_pm t j || k_sel (s_th t) (fun j => k_pd 0 (o_on t j)) 60 w (-1) j) j = (Pm j || k_sel (s_th t) (fun j => k_pd 0 (o_on t j)) r lf z j)) → ∀ (H : Heap) (locs : List Loc), k_H g ad (set_o_pm t Pm) H → va_S (k_A g) s.heap H locs → ∀ (ls : Array Slot), lv_has ls 7 [(0, .ref (ad 5 0)), (1, .int (nI 0)), (3, .int y), (4, .int z), (5, .int (nI r + (-1)))] → W p l e rm_X3_promiseLatest s m args below meth c H locs 0 0 Q (F0 m 14 ls []) := by
    intro r
    induction r with
    | zero =>
      intro y lf z Pm hr60 hy hlf hP H locs hW hS ls hl
      refine lv_iload hx hb dX3_promiseLatest_14 (lv_at hl 4 rfl) ?_
      refine lv_if_lt (tgt := 71) hx hb dX3_promiseLatest_16 (by decide) (fun h_16 => ?_) (fun h_16 => absurd k_n0 h_16)
      exact k_rv hQ hx hb hr hlk hS hW (by rw [show Pm = (fun j => o_pm t j || k_sel (s_th t) (fun j => k_pd 0 (o_on t j)) 60 w (-1) j) from funext fun j => ((hP j).trans (Bool.or_false _)).symm]) (Nat.le_of_ble_eq_true rfl) (Nat.le_of_ble_eq_true rfl) dX3_promiseLatest_71
    | succ r ih =>
      intro y lf z Pm hr60 hy hlf hP H locs hW hS ls hl
      rw [k_dec] at hl
      subst hy
      refine lv_iload hx hb dX3_promiseLatest_14 (lv_at hl 4 rfl) ?_
      refine k_if_lt (tgt := 71) hx hb (by omega) dX3_promiseLatest_16 (by decide) ?_
      refine lv_iload_n hx hb dX3_promiseLatest_19 rfl (lv_at hl 2 rfl) ?_
      refine k_if_le (tgt := 71) hx hb (by omega) dX3_promiseLatest_20 (by decide) (fun h_20 => ?_) (fun h_20 => ?_)
      · exact k_rv hQ hx hb hr hlk hS hW (by rw [show Pm = (fun j => o_pm t j || k_sel (s_th t) (fun j => k_pd 0 (o_on t j)) 60 w (-1) j) from funext fun j => ((hP j).trans (by rw [h_20, k_sel_0, Bool.or_false])).symm]) (Nat.le_of_ble_eq_true rfl) (Nat.le_of_ble_eq_true rfl) dX3_promiseLatest_71
      · refine lv_aload_n hx hb dX3_promiseLatest_23 rfl (lv_at hl 0 rfl) ?_
        refine k_get (own := RX3) (C := RX3) (T := TX3) (N := 5) hx hb hts hinX3 hown hK hW (kc_5 g ad (set_o_pm t Pm)) rfl 0 (by decide) (hts (.fieldLink RX3 11 "DrillVault$Shelf" "rows" "[LDrillVault$Copy;") (by decide +kernel)) rfl (v := .ref (ad 6 0)) rfl dX3_promiseLatest_24 ?_
        refine lv_iload hx hb dX3_promiseLatest_27 (lv_at hl 4 rfl) ?_
        refine k_aald hx hb hK hW (kc_6 g ad (set_o_pm t Pm)) r rfl (by omega) (by decide) dX3_promiseLatest_29 ?_
        rcases Bool.eq_false_or_eq_true (s_th t r) with hb_30 | hb_30
        · refine k_tov (y := .ref (ad 25 r)) (by rw [if_pos hb_30]; rfl) ?_
          refine lv_astore (lv' := [(6, .ref (ad 25 r)), (0, .ref (ad 5 0)), (1, .int (nI 0)), (3, .int (nI lf)), (4, .int z), (5, .int (nI r))]) hx hb dX3_promiseLatest_30 hl (by decide) rfl (fun ls hl => ?_)
          refine lv_aload hx hb dX3_promiseLatest_32 (lv_at hl 0 rfl) ?_
          refine lv_ifnull hx hb dX3_promiseLatest_34 ?_
          refine lv_aload hx hb dX3_promiseLatest_37 (lv_at hl 0 rfl) ?_
          refine lv_iload_n hx hb dX3_promiseLatest_39 rfl (lv_at hl 2 rfl) ?_
          refine k_ci (va_runV (As := [.int (nI 0)]) (rest := []) ⟨hx, hb, hml, hown, hts⟩ (c_X0_periodOf_0 l hlt g ad (set_o_pm t Pm) r (hwf _ hb_30) (hon _ (hwf _ hb_30))) (cwV 1 hts gX3_promiseLatest_X0_periodOf rfl rfl rfl (by decide +kernel) ⟨(Nat.le_of_ble_eq_true rfl), (Nat.le_of_ble_eq_true rfl)⟩) ⟨k_blind, k_recv hK hW (kc_25 g ad (set_o_pm t Pm) (hwf _ hb_30)) rfl, fun U hU hw => ⟨rfl, k_I.of hK hZ hN hS hW hU hw⟩⟩ rfl rfl hl.1 rfl (lv_room (Nat.le_of_ble_eq_true rfl)) dX3_promiseLatest_40 ⟨(Nat.le_of_ble_eq_true rfl), (Nat.le_of_ble_eq_true rfl)⟩) hS (fun r u H locs hpo hW hS => ?_)
          obtain ⟨hr9, hu9⟩ := hpo; replace hu9 := hu9.symm; subst hu9; replace hr9 := hr9.symm; subst hr9
          refine lv_iload hx hb dX3_promiseLatest_43 (lv_at hl 4 rfl) ?_
          refine lv_icmp_eq (tgt := 65) hx hb dX3_promiseLatest_45 (by decide) (fun h_45 => ?_) (fun h_45 => ?_)
          · refine lv_iinc (v := nI r + (-1)) (lv' := [(5, .int (nI r + (-1))), (6, .ref (ad 25 r)), (0, .ref (ad 5 0)), (1, .int (nI 0)), (3, .int (nI lf)), (4, .int z)]) hx hb dX3_promiseLatest_65 hl (k := 5) rfl rfl (by decide) rfl (fun ls hl => ?_)
            refine lv_goto (tgt := 14) hx hb dX3_promiseLatest_68 (by decide) ?_
            exact ih (nI lf) lf z Pm (by omega) rfl (by omega) (fun j => (hP j).trans (by rw [k_sel_n (th := s_th t) (pd := (fun j => k_pd 0 (o_on t j))) (i := r) (fun q => q.2 h_45)])) _ _ hW hS _ (lv_sub hl [2, 3, 4, 5, 0] rfl)
          · refine lv_aload hx hb dX3_promiseLatest_48 (lv_at hl 0 rfl) ?_
            refine lv_iload_n hx hb dX3_promiseLatest_50 rfl (lv_at hl 2 rfl) ?_
            refine k_ci (va_runV (As := [.int (nI 0)]) (rest := []) ⟨hx, hb, hml, hown, hts⟩ (c_X0_periodOf_0 l hlt g ad (set_o_pm t Pm) r (hwf _ hb_30) (hon _ (hwf _ hb_30))) (cwV 1 hts gX3_promiseLatest_X0_periodOf rfl rfl rfl (by decide +kernel) ⟨(Nat.le_of_ble_eq_true rfl), (Nat.le_of_ble_eq_true rfl)⟩) ⟨k_blind, k_recv hK hW (kc_25 g ad (set_o_pm t Pm) (hwf _ hb_30)) rfl, fun U hU hw => ⟨rfl, k_I.of hK hZ hN hS hW hU hw⟩⟩ rfl rfl hl.1 rfl (lv_room (Nat.le_of_ble_eq_true rfl)) dX3_promiseLatest_51 ⟨(Nat.le_of_ble_eq_true rfl), (Nat.le_of_ble_eq_true rfl)⟩) hS (fun r u H locs hpo hW hS => ?_)
            obtain ⟨hr9, hu9⟩ := hpo; replace hu9 := hu9.symm; subst hu9; replace hr9 := hr9.symm; subst hr9
            refine lv_istore (lv' := [(4, .int (nI (k_pd 0 (o_on t r)))), (6, .ref (ad 25 r)), (0, .ref (ad 5 0)), (1, .int (nI 0)), (3, .int (nI lf)), (5, .int (nI r))]) hx hb dX3_promiseLatest_54 hl (by decide) rfl (fun ls hl => ?_)
            refine lv_aload hx hb dX3_promiseLatest_56 (lv_at hl 1 rfl) ?_
            refine lv_iconst (v := nI 1) hx hb dX3_promiseLatest_58 (by decide) ?_
            refine k_putN (host := RX4) (index := 34) (own := RX3) (C := RX0) (T := TX0) (N := 11) hx hb hts hinX0 tyX0 tyX0_ok nmX0 hown hK hW hS (kc_25 g ad (set_o_pm t Pm) (hwf _ hb_30)) rfl 8 (by decide) (by decide +kernel) rfl rfl (ty := tyX0 8) (v := .int (nI 1)) (tyX0_ok 8 (by decide)) rfl rfl (Nat.le_of_ble_eq_true rfl) dX3_promiseLatest_59 (fun H locs hW hS => ?_)
            have hW : k_H g ad (set_o_pm t (va_up Pm r true)) H := kt_o_pm (t := set_o_pm t Pm) r (hwf _ hb_30) true rfl hW
            refine lv_iinc (v := nI lf + (-1)) (lv' := [(3, .int (nI lf + (-1))), (4, .int (nI (k_pd 0 (o_on t r)))), (6, .ref (ad 25 r)), (0, .ref (ad 5 0)), (1, .int (nI 0)), (5, .int (nI r))]) hx hb dX3_promiseLatest_62 hl (k := 4) rfl rfl (by decide) rfl (fun ls hl => ?_)
            refine lv_iinc (v := nI r + (-1)) (lv' := [(5, .int (nI r + (-1))), (3, .int (nI lf + (-1))), (4, .int (nI (k_pd 0 (o_on t r)))), (6, .ref (ad 25 r)), (0, .ref (ad 5 0)), (1, .int (nI 0))]) hx hb dX3_promiseLatest_65 hl (k := 5) rfl rfl (by decide) rfl (fun ls hl => ?_)
            refine lv_goto (tgt := 14) hx hb dX3_promiseLatest_68 (by decide) ?_
            exact ih (nI lf + (-1)) (lf - 1) (nI (k_pd 0 (o_on t r))) (va_up Pm r true) (by omega) (sb_m1 h_20) (by omega) (k_sel_by hP h_20 hb_30 (fun q => h_45 q)) _ _ hW hS _ (lv_sub hl [4, 5, 1, 2, 0] rfl)
        · refine k_tov (y := .null) (by rw [if_neg (by rw [hb_30]; decide)]; rfl) ?_
          refine lv_astoreN (lv' := [(6, .null), (0, .ref (ad 5 0)), (1, .int (nI 0)), (3, .int (nI lf)), (4, .int z), (5, .int (nI r))]) hx hb dX3_promiseLatest_30 hl (by decide) rfl (fun ls hl => ?_)
          refine lv_aloadN hx hb dX3_promiseLatest_32 (lv_at hl 0 rfl) ?_
          refine lv_ifnullN (tgt := 65) hx hb dX3_promiseLatest_34 (by decide) ?_
          refine lv_iinc (v := nI r + (-1)) (lv' := [(5, .int (nI r + (-1))), (6, .null), (0, .ref (ad 5 0)), (1, .int (nI 0)), (3, .int (nI lf)), (4, .int z)]) hx hb dX3_promiseLatest_65 hl (k := 5) rfl rfl (by decide) rfl (fun ls hl => ?_)
          refine lv_goto (tgt := 14) hx hb dX3_promiseLatest_68 (by decide) ?_
          exact ih (nI lf) lf z Pm (by omega) rfl (by omega) (fun j => (hP j).trans (by rw [k_sel_n (th := s_th t) (pd := (fun j => k_pd 0 (o_on t j))) (i := r) (fun q => by have h9 := hb_30.symm.trans q.1; cases h9)])) _ _ hW hS _ (lv_sub hl [2, 3, 4, 5, 0] rfl)
  exact hloop_14 60 (nI w) w (-1) (o_pm t) (Nat.le_refl _) rfl hw (fun j => rfl) _ _ hW hS _ (lv_sub hl [3, 4, 2, 1, 0] rfl)
set_option maxRecDepth 100000 in
set_option maxHeartbeats 4000000 in
theorem c_X3_promiseLatest_1 (l : Launch) (hlt : l.stackTraces = false) (g : k_g) (ad : k_AD) (t : k_T) (w : Nat) (hw : w ≤ 30) (hwf : ∀ j, s_th t j = true → j < o_n t) (hon : ∀ j, j < o_n t → o_on t j ≤ 360) : Met l yX3_promiseLatest wsX3_promiseLatest rm_X3_promiseLatest (va_Pc [.ref (ad 5 0), .int (nI 1), .int (nI w)] (k_I g (k_ct g ad t) ad)) (va_Qv (fun u => u = set_o_pm t (fun j => o_pm t j || k_sel (s_th t) (fun j => k_pd 1 (o_on t j)) 60 w (-1) j)) (fun u U => k_H g ad u U.heap) (k_A g)) 0 0 (k_A g) := by
  refine k_met (cc := cX3_promiseLatest) (maxL := 7) (ret := none) (by decide) rfl (Nat.le_of_ble_eq_true rfl) (fun p e s m args below meth c Q ls hQ hx hb hr hml hts hown hlk hin hK hZ hN hW hS hl => ?_)
  have hown : s.vm.findClass RX3 = some m.cls := hown
  have hW : k_H g ad t s.heap := hW
  have hl : lv_has ls 7 [(0, .ref (ad 5 0)), (1, .int (nI 1)), (2, .int (nI w))] := hl
  have hinX0 : ∀ w ∈ wsX00, w ∈ wsX3_promiseLatest := by decide +kernel
  have hinX3 : ∀ w ∈ wsX30, w ∈ wsX3_promiseLatest := by decide +kernel
  refine lv_iload_n hx hb dX3_promiseLatest_0 rfl (lv_at hl 2 rfl) ?_
  refine lv_istore_n (lv' := [(3, .int (nI w)), (0, .ref (ad 5 0)), (1, .int (nI 1)), (2, .int (nI w))]) hx hb dX3_promiseLatest_1 rfl hl (by decide) rfl (fun ls hl => ?_)
  refine lv_iconst (v := (-1)) hx hb dX3_promiseLatest_2 (by decide) ?_
  refine lv_istore (lv' := [(4, .int (-1)), (3, .int (nI w)), (0, .ref (ad 5 0)), (1, .int (nI 1)), (2, .int (nI w))]) hx hb dX3_promiseLatest_3 hl (by decide) rfl (fun ls hl => ?_)
  refine lv_aload_n hx hb dX3_promiseLatest_5 rfl (lv_at hl 2 rfl) ?_
  refine k_get (own := RX3) (C := RX3) (T := TX3) (N := 5) hx hb hts hinX3 hown hK hW (kc_5 g ad t) rfl 0 (by decide) (hts (.fieldLink RX3 11 "DrillVault$Shelf" "rows" "[LDrillVault$Copy;") (by decide +kernel)) rfl (v := .ref (ad 6 0)) rfl dX3_promiseLatest_6 ?_
  refine k_alen hx hb hK hW 3 rfl (kc_6 g ad t) (v := nI 60) rfl dX3_promiseLatest_9 ?_
  refine lv_iconst (v := nI 1) hx hb dX3_promiseLatest_10 (by decide) ?_
  refine lv_isub hx hb dX3_promiseLatest_11 ?_
  refine k_toi (k_m1 _) ?_
  refine lv_istore (lv' := [(5, .int (nI 60 + (-1))), (4, .int (-1)), (3, .int (nI w)), (0, .ref (ad 5 0)), (1, .int (nI 1)), (2, .int (nI w))]) hx hb dX3_promiseLatest_12 hl (by decide) rfl (fun ls hl => ?_)
  have hloop_14 : ∀ (r : Nat) (y : Int32) (lf : Nat) (z : Int32) (Pm : Nat → Bool), (r ≤ 60) → (y = nI lf) → (lf ≤ 30) → (∀ j, (fun j => o_pm t j || k_sel (s_th t) (fun j => k_pd 1 (o_on t j)) 60 w (-1) j) j = (Pm j || k_sel (s_th t) (fun j => k_pd 1 (o_on t j)) r lf z j)) → ∀ (H : Heap) (locs : List Loc), k_H g ad (set_o_pm t Pm) H → va_S (k_A g) s.heap H locs → ∀ (ls : Array Slot), lv_has ls 7 [(0, .ref (ad 5 0)), (1, .int (nI 1)), (3, .int y), (4, .int z), (5, .int (nI r + (-1)))] → W p l e rm_X3_promiseLatest s m args below meth c H locs 0 0 Q (F0 m 14 ls []) := by
    intro r
    induction r with
    | zero =>
      intro y lf z Pm hr60 hy hlf hP H locs hW hS ls hl
      refine lv_iload hx hb dX3_promiseLatest_14 (lv_at hl 4 rfl) ?_
      refine lv_if_lt (tgt := 71) hx hb dX3_promiseLatest_16 (by decide) (fun h_16 => ?_) (fun h_16 => absurd k_n0 h_16)
      exact k_rv hQ hx hb hr hlk hS hW (by rw [show Pm = (fun j => o_pm t j || k_sel (s_th t) (fun j => k_pd 1 (o_on t j)) 60 w (-1) j) from funext fun j => ((hP j).trans (Bool.or_false _)).symm]) (Nat.le_of_ble_eq_true rfl) (Nat.le_of_ble_eq_true rfl) dX3_promiseLatest_71
    | succ r ih =>
      intro y lf z Pm hr60 hy hlf hP H locs hW hS ls hl
      rw [k_dec] at hl
      subst hy
      refine lv_iload hx hb dX3_promiseLatest_14 (lv_at hl 4 rfl) ?_
      refine k_if_lt (tgt := 71) hx hb (by omega) dX3_promiseLatest_16 (by decide) ?_
      refine lv_iload_n hx hb dX3_promiseLatest_19 rfl (lv_at hl 2 rfl) ?_
      refine k_if_le (tgt := 71) hx hb (by omega) dX3_promiseLatest_20 (by decide) (fun h_20 => ?_) (fun h_20 => ?_)
      · exact k_rv hQ hx hb hr hlk hS hW (by rw [show Pm = (fun j => o_pm t j || k_sel (s_th t) (fun j => k_pd 1 (o_on t j)) 60 w (-1) j) from funext fun j => ((hP j).trans (by rw [h_20, k_sel_0, Bool.or_false])).symm]) (Nat.le_of_ble_eq_true rfl) (Nat.le_of_ble_eq_true rfl) dX3_promiseLatest_71
      · refine lv_aload_n hx hb dX3_promiseLatest_23 rfl (lv_at hl 0 rfl) ?_
        refine k_get (own := RX3) (C := RX3) (T := TX3) (N := 5) hx hb hts hinX3 hown hK hW (kc_5 g ad (set_o_pm t Pm)) rfl 0 (by decide) (hts (.fieldLink RX3 11 "DrillVault$Shelf" "rows" "[LDrillVault$Copy;") (by decide +kernel)) rfl (v := .ref (ad 6 0)) rfl dX3_promiseLatest_24 ?_
        refine lv_iload hx hb dX3_promiseLatest_27 (lv_at hl 4 rfl) ?_
        refine k_aald hx hb hK hW (kc_6 g ad (set_o_pm t Pm)) r rfl (by omega) (by decide) dX3_promiseLatest_29 ?_
        rcases Bool.eq_false_or_eq_true (s_th t r) with hb_30 | hb_30
        · refine k_tov (y := .ref (ad 25 r)) (by rw [if_pos hb_30]; rfl) ?_
          refine lv_astore (lv' := [(6, .ref (ad 25 r)), (0, .ref (ad 5 0)), (1, .int (nI 1)), (3, .int (nI lf)), (4, .int z), (5, .int (nI r))]) hx hb dX3_promiseLatest_30 hl (by decide) rfl (fun ls hl => ?_)
          refine lv_aload hx hb dX3_promiseLatest_32 (lv_at hl 0 rfl) ?_
          refine lv_ifnull hx hb dX3_promiseLatest_34 ?_
          refine lv_aload hx hb dX3_promiseLatest_37 (lv_at hl 0 rfl) ?_
          refine lv_iload_n hx hb dX3_promiseLatest_39 rfl (lv_at hl 2 rfl) ?_
          refine k_ci (va_runV (As := [.int (nI 1)]) (rest := []) ⟨hx, hb, hml, hown, hts⟩ (c_X0_periodOf_1 l hlt g ad (set_o_pm t Pm) r (hwf _ hb_30) (hon _ (hwf _ hb_30))) (cwV 1 hts gX3_promiseLatest_X0_periodOf rfl rfl rfl (by decide +kernel) ⟨(Nat.le_of_ble_eq_true rfl), (Nat.le_of_ble_eq_true rfl)⟩) ⟨k_blind, k_recv hK hW (kc_25 g ad (set_o_pm t Pm) (hwf _ hb_30)) rfl, fun U hU hw => ⟨rfl, k_I.of hK hZ hN hS hW hU hw⟩⟩ rfl rfl hl.1 rfl (lv_room (Nat.le_of_ble_eq_true rfl)) dX3_promiseLatest_40 ⟨(Nat.le_of_ble_eq_true rfl), (Nat.le_of_ble_eq_true rfl)⟩) hS (fun r u H locs hpo hW hS => ?_)
          obtain ⟨hr9, hu9⟩ := hpo; replace hu9 := hu9.symm; subst hu9; replace hr9 := hr9.symm; subst hr9
          refine lv_iload hx hb dX3_promiseLatest_43 (lv_at hl 4 rfl) ?_
          refine lv_icmp_eq (tgt := 65) hx hb dX3_promiseLatest_45 (by decide) (fun h_45 => ?_) (fun h_45 => ?_)
          · refine lv_iinc (v := nI r + (-1)) (lv' := [(5, .int (nI r + (-1))), (6, .ref (ad 25 r)), (0, .ref (ad 5 0)), (1, .int (nI 1)), (3, .int (nI lf)), (4, .int z)]) hx hb dX3_promiseLatest_65 hl (k := 5) rfl rfl (by decide) rfl (fun ls hl => ?_)
            refine lv_goto (tgt := 14) hx hb dX3_promiseLatest_68 (by decide) ?_
            exact ih (nI lf) lf z Pm (by omega) rfl (by omega) (fun j => (hP j).trans (by rw [k_sel_n (th := s_th t) (pd := (fun j => k_pd 1 (o_on t j))) (i := r) (fun q => q.2 h_45)])) _ _ hW hS _ (lv_sub hl [2, 3, 4, 5, 0] rfl)
          · refine lv_aload hx hb dX3_promiseLatest_48 (lv_at hl 0 rfl) ?_
            refine lv_iload_n hx hb dX3_promiseLatest_50 rfl (lv_at hl 2 rfl) ?_
            refine k_ci (va_runV (As := [.int (nI 1)]) (rest := []) ⟨hx, hb, hml, hown, hts⟩ (c_X0_periodOf_1 l hlt g ad (set_o_pm t Pm) r (hwf _ hb_30) (hon _ (hwf _ hb_30))) (cwV 1 hts gX3_promiseLatest_X0_periodOf rfl rfl rfl (by decide +kernel) ⟨(Nat.le_of_ble_eq_true rfl), (Nat.le_of_ble_eq_true rfl)⟩) ⟨k_blind, k_recv hK hW (kc_25 g ad (set_o_pm t Pm) (hwf _ hb_30)) rfl, fun U hU hw => ⟨rfl, k_I.of hK hZ hN hS hW hU hw⟩⟩ rfl rfl hl.1 rfl (lv_room (Nat.le_of_ble_eq_true rfl)) dX3_promiseLatest_51 ⟨(Nat.le_of_ble_eq_true rfl), (Nat.le_of_ble_eq_true rfl)⟩) hS (fun r u H locs hpo hW hS => ?_)
            obtain ⟨hr9, hu9⟩ := hpo; replace hu9 := hu9.symm; subst hu9; replace hr9 := hr9.symm; subst hr9
            refine lv_istore (lv' := [(4, .int (nI (k_pd 1 (o_on t r)))), (6, .ref (ad 25 r)), (0, .ref (ad 5 0)), (1, .int (nI 1)), (3, .int (nI lf)), (5, .int (nI r))]) hx hb dX3_promiseLatest_54 hl (by decide) rfl (fun ls hl => ?_)
            refine lv_aload hx hb dX3_promiseLatest_56 (lv_at hl 1 rfl) ?_
            refine lv_iconst (v := nI 1) hx hb dX3_promiseLatest_58 (by decide) ?_
            refine k_putN (host := RX4) (index := 34) (own := RX3) (C := RX0) (T := TX0) (N := 11) hx hb hts hinX0 tyX0 tyX0_ok nmX0 hown hK hW hS (kc_25 g ad (set_o_pm t Pm) (hwf _ hb_30)) rfl 8 (by decide) (by decide +kernel) rfl rfl (ty := tyX0 8) (v := .int (nI 1)) (tyX0_ok 8 (by decide)) rfl rfl (Nat.le_of_ble_eq_true rfl) dX3_promiseLatest_59 (fun H locs hW hS => ?_)
            have hW : k_H g ad (set_o_pm t (va_up Pm r true)) H := kt_o_pm (t := set_o_pm t Pm) r (hwf _ hb_30) true rfl hW
            refine lv_iinc (v := nI lf + (-1)) (lv' := [(3, .int (nI lf + (-1))), (4, .int (nI (k_pd 1 (o_on t r)))), (6, .ref (ad 25 r)), (0, .ref (ad 5 0)), (1, .int (nI 1)), (5, .int (nI r))]) hx hb dX3_promiseLatest_62 hl (k := 4) rfl rfl (by decide) rfl (fun ls hl => ?_)
            refine lv_iinc (v := nI r + (-1)) (lv' := [(5, .int (nI r + (-1))), (3, .int (nI lf + (-1))), (4, .int (nI (k_pd 1 (o_on t r)))), (6, .ref (ad 25 r)), (0, .ref (ad 5 0)), (1, .int (nI 1))]) hx hb dX3_promiseLatest_65 hl (k := 5) rfl rfl (by decide) rfl (fun ls hl => ?_)
            refine lv_goto (tgt := 14) hx hb dX3_promiseLatest_68 (by decide) ?_
            exact ih (nI lf + (-1)) (lf - 1) (nI (k_pd 1 (o_on t r))) (va_up Pm r true) (by omega) (sb_m1 h_20) (by omega) (k_sel_by hP h_20 hb_30 (fun q => h_45 q)) _ _ hW hS _ (lv_sub hl [4, 5, 1, 2, 0] rfl)
        · refine k_tov (y := .null) (by rw [if_neg (by rw [hb_30]; decide)]; rfl) ?_
          refine lv_astoreN (lv' := [(6, .null), (0, .ref (ad 5 0)), (1, .int (nI 1)), (3, .int (nI lf)), (4, .int z), (5, .int (nI r))]) hx hb dX3_promiseLatest_30 hl (by decide) rfl (fun ls hl => ?_)
          refine lv_aloadN hx hb dX3_promiseLatest_32 (lv_at hl 0 rfl) ?_
          refine lv_ifnullN (tgt := 65) hx hb dX3_promiseLatest_34 (by decide) ?_
          refine lv_iinc (v := nI r + (-1)) (lv' := [(5, .int (nI r + (-1))), (6, .null), (0, .ref (ad 5 0)), (1, .int (nI 1)), (3, .int (nI lf)), (4, .int z)]) hx hb dX3_promiseLatest_65 hl (k := 5) rfl rfl (by decide) rfl (fun ls hl => ?_)
          refine lv_goto (tgt := 14) hx hb dX3_promiseLatest_68 (by decide) ?_
          exact ih (nI lf) lf z Pm (by omega) rfl (by omega) (fun j => (hP j).trans (by rw [k_sel_n (th := s_th t) (pd := (fun j => k_pd 1 (o_on t j))) (i := r) (fun q => by have h9 := hb_30.symm.trans q.1; cases h9)])) _ _ hW hS _ (lv_sub hl [2, 3, 4, 5, 0] rfl)
  exact hloop_14 60 (nI w) w (-1) (o_pm t) (Nat.le_refl _) rfl hw (fun j => rfl) _ _ hW hS _ (lv_sub hl [3, 4, 2, 1, 0] rfl)
set_option maxRecDepth 100000 in
set_option maxHeartbeats 4000000 in
theorem c_X3_promiseLatest_2 (l : Launch) (hlt : l.stackTraces = false) (g : k_g) (ad : k_AD) (t : k_T) (w : Nat) (hw : w ≤ 30) (hwf : ∀ j, s_th t j = true → j < o_n t) (hon : ∀ j, j < o_n t → o_on t j ≤ 360) : Met l yX3_promiseLatest wsX3_promiseLatest rm_X3_promiseLatest (va_Pc [.ref (ad 5 0), .int (nI 2), .int (nI w)] (k_I g (k_ct g ad t) ad)) (va_Qv (fun u => u = set_o_pm t (fun j => o_pm t j || k_sel (s_th t) (fun j => k_pd 2 (o_on t j)) 60 w (-1) j)) (fun u U => k_H g ad u U.heap) (k_A g)) 0 0 (k_A g) := by
  refine k_met (cc := cX3_promiseLatest) (maxL := 7) (ret := none) (by decide) rfl (Nat.le_of_ble_eq_true rfl) (fun p e s m args below meth c Q ls hQ hx hb hr hml hts hown hlk hin hK hZ hN hW hS hl => ?_)
  have hown : s.vm.findClass RX3 = some m.cls := hown
  have hW : k_H g ad t s.heap := hW
  have hl : lv_has ls 7 [(0, .ref (ad 5 0)), (1, .int (nI 2)), (2, .int (nI w))] := hl
  have hinX0 : ∀ w ∈ wsX00, w ∈ wsX3_promiseLatest := by decide +kernel
  have hinX3 : ∀ w ∈ wsX30, w ∈ wsX3_promiseLatest := by decide +kernel
  refine lv_iload_n hx hb dX3_promiseLatest_0 rfl (lv_at hl 2 rfl) ?_
  refine lv_istore_n (lv' := [(3, .int (nI w)), (0, .ref (ad 5 0)), (1, .int (nI 2)), (2, .int (nI w))]) hx hb dX3_promiseLatest_1 rfl hl (by decide) rfl (fun ls hl => ?_)
  refine lv_iconst (v := (-1)) hx hb dX3_promiseLatest_2 (by decide) ?_
  refine lv_istore (lv' := [(4, .int (-1)), (3, .int (nI w)), (0, .ref (ad 5 0)), (1, .int (nI 2)), (2, .int (nI w))]) hx hb dX3_promiseLatest_3 hl (by decide) rfl (fun ls hl => ?_)
  refine lv_aload_n hx hb dX3_promiseLatest_5 rfl (lv_at hl 2 rfl) ?_
  refine k_get (own := RX3) (C := RX3) (T := TX3) (N := 5) hx hb hts hinX3 hown hK hW (kc_5 g ad t) rfl 0 (by decide) (hts (.fieldLink RX3 11 "DrillVault$Shelf" "rows" "[LDrillVault$Copy;") (by decide +kernel)) rfl (v := .ref (ad 6 0)) rfl dX3_promiseLatest_6 ?_
  refine k_alen hx hb hK hW 3 rfl (kc_6 g ad t) (v := nI 60) rfl dX3_promiseLatest_9 ?_
  refine lv_iconst (v := nI 1) hx hb dX3_promiseLatest_10 (by decide) ?_
  refine lv_isub hx hb dX3_promiseLatest_11 ?_
  refine k_toi (k_m1 _) ?_
  refine lv_istore (lv' := [(5, .int (nI 60 + (-1))), (4, .int (-1)), (3, .int (nI w)), (0, .ref (ad 5 0)), (1, .int (nI 2)), (2, .int (nI w))]) hx hb dX3_promiseLatest_12 hl (by decide) rfl (fun ls hl => ?_)
  have hloop_14 : ∀ (r : Nat) (y : Int32) (lf : Nat) (z : Int32) (Pm : Nat → Bool), (r ≤ 60) → (y = nI lf) → (lf ≤ 30) → (∀ j, (fun j => o_pm t j || k_sel (s_th t) (fun j => k_pd 2 (o_on t j)) 60 w (-1) j) j = (Pm j || k_sel (s_th t) (fun j => k_pd 2 (o_on t j)) r lf z j)) → ∀ (H : Heap) (locs : List Loc), k_H g ad (set_o_pm t Pm) H → va_S (k_A g) s.heap H locs → ∀ (ls : Array Slot), lv_has ls 7 [(0, .ref (ad 5 0)), (1, .int (nI 2)), (3, .int y), (4, .int z), (5, .int (nI r + (-1)))] → W p l e rm_X3_promiseLatest s m args below meth c H locs 0 0 Q (F0 m 14 ls []) := by
    intro r
    induction r with
    | zero =>
      intro y lf z Pm hr60 hy hlf hP H locs hW hS ls hl
      refine lv_iload hx hb dX3_promiseLatest_14 (lv_at hl 4 rfl) ?_
      refine lv_if_lt (tgt := 71) hx hb dX3_promiseLatest_16 (by decide) (fun h_16 => ?_) (fun h_16 => absurd k_n0 h_16)
      exact k_rv hQ hx hb hr hlk hS hW (by rw [show Pm = (fun j => o_pm t j || k_sel (s_th t) (fun j => k_pd 2 (o_on t j)) 60 w (-1) j) from funext fun j => ((hP j).trans (Bool.or_false _)).symm]) (Nat.le_of_ble_eq_true rfl) (Nat.le_of_ble_eq_true rfl) dX3_promiseLatest_71
    | succ r ih =>
      intro y lf z Pm hr60 hy hlf hP H locs hW hS ls hl
      rw [k_dec] at hl
      subst hy
      refine lv_iload hx hb dX3_promiseLatest_14 (lv_at hl 4 rfl) ?_
      refine k_if_lt (tgt := 71) hx hb (by omega) dX3_promiseLatest_16 (by decide) ?_
      refine lv_iload_n hx hb dX3_promiseLatest_19 rfl (lv_at hl 2 rfl) ?_
      refine k_if_le (tgt := 71) hx hb (by omega) dX3_promiseLatest_20 (by decide) (fun h_20 => ?_) (fun h_20 => ?_)
      · exact k_rv hQ hx hb hr hlk hS hW (by rw [show Pm = (fun j => o_pm t j || k_sel (s_th t) (fun j => k_pd 2 (o_on t j)) 60 w (-1) j) from funext fun j => ((hP j).trans (by rw [h_20, k_sel_0, Bool.or_false])).symm]) (Nat.le_of_ble_eq_true rfl) (Nat.le_of_ble_eq_true rfl) dX3_promiseLatest_71
      · refine lv_aload_n hx hb dX3_promiseLatest_23 rfl (lv_at hl 0 rfl) ?_
        refine k_get (own := RX3) (C := RX3) (T := TX3) (N := 5) hx hb hts hinX3 hown hK hW (kc_5 g ad (set_o_pm t Pm)) rfl 0 (by decide) (hts (.fieldLink RX3 11 "DrillVault$Shelf" "rows" "[LDrillVault$Copy;") (by decide +kernel)) rfl (v := .ref (ad 6 0)) rfl dX3_promiseLatest_24 ?_
        refine lv_iload hx hb dX3_promiseLatest_27 (lv_at hl 4 rfl) ?_
        refine k_aald hx hb hK hW (kc_6 g ad (set_o_pm t Pm)) r rfl (by omega) (by decide) dX3_promiseLatest_29 ?_
        rcases Bool.eq_false_or_eq_true (s_th t r) with hb_30 | hb_30
        · refine k_tov (y := .ref (ad 25 r)) (by rw [if_pos hb_30]; rfl) ?_
          refine lv_astore (lv' := [(6, .ref (ad 25 r)), (0, .ref (ad 5 0)), (1, .int (nI 2)), (3, .int (nI lf)), (4, .int z), (5, .int (nI r))]) hx hb dX3_promiseLatest_30 hl (by decide) rfl (fun ls hl => ?_)
          refine lv_aload hx hb dX3_promiseLatest_32 (lv_at hl 0 rfl) ?_
          refine lv_ifnull hx hb dX3_promiseLatest_34 ?_
          refine lv_aload hx hb dX3_promiseLatest_37 (lv_at hl 0 rfl) ?_
          refine lv_iload_n hx hb dX3_promiseLatest_39 rfl (lv_at hl 2 rfl) ?_
          refine k_ci (va_runV (As := [.int (nI 2)]) (rest := []) ⟨hx, hb, hml, hown, hts⟩ (c_X0_periodOf_2 l hlt g ad (set_o_pm t Pm) r (hwf _ hb_30) (hon _ (hwf _ hb_30))) (cwV 1 hts gX3_promiseLatest_X0_periodOf rfl rfl rfl (by decide +kernel) ⟨(Nat.le_of_ble_eq_true rfl), (Nat.le_of_ble_eq_true rfl)⟩) ⟨k_blind, k_recv hK hW (kc_25 g ad (set_o_pm t Pm) (hwf _ hb_30)) rfl, fun U hU hw => ⟨rfl, k_I.of hK hZ hN hS hW hU hw⟩⟩ rfl rfl hl.1 rfl (lv_room (Nat.le_of_ble_eq_true rfl)) dX3_promiseLatest_40 ⟨(Nat.le_of_ble_eq_true rfl), (Nat.le_of_ble_eq_true rfl)⟩) hS (fun r u H locs hpo hW hS => ?_)
          obtain ⟨hr9, hu9⟩ := hpo; replace hu9 := hu9.symm; subst hu9; replace hr9 := hr9.symm; subst hr9
          refine lv_iload hx hb dX3_promiseLatest_43 (lv_at hl 4 rfl) ?_
          refine lv_icmp_eq (tgt := 65) hx hb dX3_promiseLatest_45 (by decide) (fun h_45 => ?_) (fun h_45 => ?_)
          · refine lv_iinc (v := nI r + (-1)) (lv' := [(5, .int (nI r + (-1))), (6, .ref (ad 25 r)), (0, .ref (ad 5 0)), (1, .int (nI 2)), (3, .int (nI lf)), (4, .int z)]) hx hb dX3_promiseLatest_65 hl (k := 5) rfl rfl (by decide) rfl (fun ls hl => ?_)
            refine lv_goto (tgt := 14) hx hb dX3_promiseLatest_68 (by decide) ?_
            exact ih (nI lf) lf z Pm (by omega) rfl (by omega) (fun j => (hP j).trans (by rw [k_sel_n (th := s_th t) (pd := (fun j => k_pd 2 (o_on t j))) (i := r) (fun q => q.2 h_45)])) _ _ hW hS _ (lv_sub hl [2, 3, 4, 5, 0] rfl)
          · refine lv_aload hx hb dX3_promiseLatest_48 (lv_at hl 0 rfl) ?_
            refine lv_iload_n hx hb dX3_promiseLatest_50 rfl (lv_at hl 2 rfl) ?_
            refine k_ci (va_runV (As := [.int (nI 2)]) (rest := []) ⟨hx, hb, hml, hown, hts⟩ (c_X0_periodOf_2 l hlt g ad (set_o_pm t Pm) r (hwf _ hb_30) (hon _ (hwf _ hb_30))) (cwV 1 hts gX3_promiseLatest_X0_periodOf rfl rfl rfl (by decide +kernel) ⟨(Nat.le_of_ble_eq_true rfl), (Nat.le_of_ble_eq_true rfl)⟩) ⟨k_blind, k_recv hK hW (kc_25 g ad (set_o_pm t Pm) (hwf _ hb_30)) rfl, fun U hU hw => ⟨rfl, k_I.of hK hZ hN hS hW hU hw⟩⟩ rfl rfl hl.1 rfl (lv_room (Nat.le_of_ble_eq_true rfl)) dX3_promiseLatest_51 ⟨(Nat.le_of_ble_eq_true rfl), (Nat.le_of_ble_eq_true rfl)⟩) hS (fun r u H locs hpo hW hS => ?_)
            obtain ⟨hr9, hu9⟩ := hpo; replace hu9 := hu9.symm; subst hu9; replace hr9 := hr9.symm; subst hr9
            refine lv_istore (lv' := [(4, .int (nI (k_pd 2 (o_on t r)))), (6, .ref (ad 25 r)), (0, .ref (ad 5 0)), (1, .int (nI 2)), (3, .int (nI lf)), (5, .int (nI r))]) hx hb dX3_promiseLatest_54 hl (by decide) rfl (fun ls hl => ?_)
            refine lv_aload hx hb dX3_promiseLatest_56 (lv_at hl 1 rfl) ?_
            refine lv_iconst (v := nI 1) hx hb dX3_promiseLatest_58 (by decide) ?_
            refine k_putN (host := RX4) (index := 34) (own := RX3) (C := RX0) (T := TX0) (N := 11) hx hb hts hinX0 tyX0 tyX0_ok nmX0 hown hK hW hS (kc_25 g ad (set_o_pm t Pm) (hwf _ hb_30)) rfl 8 (by decide) (by decide +kernel) rfl rfl (ty := tyX0 8) (v := .int (nI 1)) (tyX0_ok 8 (by decide)) rfl rfl (Nat.le_of_ble_eq_true rfl) dX3_promiseLatest_59 (fun H locs hW hS => ?_)
            have hW : k_H g ad (set_o_pm t (va_up Pm r true)) H := kt_o_pm (t := set_o_pm t Pm) r (hwf _ hb_30) true rfl hW
            refine lv_iinc (v := nI lf + (-1)) (lv' := [(3, .int (nI lf + (-1))), (4, .int (nI (k_pd 2 (o_on t r)))), (6, .ref (ad 25 r)), (0, .ref (ad 5 0)), (1, .int (nI 2)), (5, .int (nI r))]) hx hb dX3_promiseLatest_62 hl (k := 4) rfl rfl (by decide) rfl (fun ls hl => ?_)
            refine lv_iinc (v := nI r + (-1)) (lv' := [(5, .int (nI r + (-1))), (3, .int (nI lf + (-1))), (4, .int (nI (k_pd 2 (o_on t r)))), (6, .ref (ad 25 r)), (0, .ref (ad 5 0)), (1, .int (nI 2))]) hx hb dX3_promiseLatest_65 hl (k := 5) rfl rfl (by decide) rfl (fun ls hl => ?_)
            refine lv_goto (tgt := 14) hx hb dX3_promiseLatest_68 (by decide) ?_
            exact ih (nI lf + (-1)) (lf - 1) (nI (k_pd 2 (o_on t r))) (va_up Pm r true) (by omega) (sb_m1 h_20) (by omega) (k_sel_by hP h_20 hb_30 (fun q => h_45 q)) _ _ hW hS _ (lv_sub hl [4, 5, 1, 2, 0] rfl)
        · refine k_tov (y := .null) (by rw [if_neg (by rw [hb_30]; decide)]; rfl) ?_
          refine lv_astoreN (lv' := [(6, .null), (0, .ref (ad 5 0)), (1, .int (nI 2)), (3, .int (nI lf)), (4, .int z), (5, .int (nI r))]) hx hb dX3_promiseLatest_30 hl (by decide) rfl (fun ls hl => ?_)
          refine lv_aloadN hx hb dX3_promiseLatest_32 (lv_at hl 0 rfl) ?_
          refine lv_ifnullN (tgt := 65) hx hb dX3_promiseLatest_34 (by decide) ?_
          refine lv_iinc (v := nI r + (-1)) (lv' := [(5, .int (nI r + (-1))), (6, .null), (0, .ref (ad 5 0)), (1, .int (nI 2)), (3, .int (nI lf)), (4, .int z)]) hx hb dX3_promiseLatest_65 hl (k := 5) rfl rfl (by decide) rfl (fun ls hl => ?_)
          refine lv_goto (tgt := 14) hx hb dX3_promiseLatest_68 (by decide) ?_
          exact ih (nI lf) lf z Pm (by omega) rfl (by omega) (fun j => (hP j).trans (by rw [k_sel_n (th := s_th t) (pd := (fun j => k_pd 2 (o_on t j))) (i := r) (fun q => by have h9 := hb_30.symm.trans q.1; cases h9)])) _ _ hW hS _ (lv_sub hl [2, 3, 4, 5, 0] rfl)
  exact hloop_14 60 (nI w) w (-1) (o_pm t) (Nat.le_refl _) rfl hw (fun j => rfl) _ _ hW hS _ (lv_sub hl [3, 4, 2, 1, 0] rfl)
