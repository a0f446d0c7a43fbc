abbrev rm_X5_copies : Room := { frames := 0, cells := 0, slots := 0, locals := 0 }
set_option maxRecDepth 100000 in
set_option maxHeartbeats 4000000 in
theorem c_X5_copies (l : Launch) (hlt : l.stackTraces = false) (g : k_g) (ad : k_AD) (t : k_T) (hm60 : m_md t ≤ 60) : Met l yX5_copies wsX5_copies rm_X5_copies (va_Pc [.ref (ad 9 0)] (k_I g (k_ct g ad t) ad)) (va_Qi (fun r u => r = nI (k_cb (m_th t) (m_md t)) ∧ u = set_m_l t 0) (fun u U => k_H g ad u U.heap) (k_A g)) 0 0 (k_A g) := by
  refine k_met (cc := cX5_copies) (maxL := 3) (ret := (some .int)) (by decide) rfl (Nat.le_of_ble_eq_true rfl) (fun p e s m args below meth c Q ls hQ hx hb hr hml hts hown hlk hin hK hZ hN hW hS hl => ?_)
  have hown : s.vm.findClass RX5 = some m.cls := hown
  have hW : k_H g ad t s.heap := hW
  have hl : lv_has ls 3 [(0, .ref (ad 9 0))] := hl
  have hinX5 : ∀ w ∈ wsX50, w ∈ wsX5_copies := by decide +kernel
  refine lv_aload_n hx hb dX5_copies_0 rfl (lv_at hl 0 rfl) ?_
  refine lv_iconst (v := nI 0) hx hb dX5_copies_1 (by decide) ?_
  refine k_put (own := RX5) (C := RX5) (T := TX5) (N := 21) hx hb hts hinX5 tyX5 tyX5_ok nmX5 hown hK hW hS (kc_9 g ad t) rfl 20 (by decide) (hts (.fieldLink RX5 63 "DrillVaultModel" "last" "I") (by decide +kernel)) rfl rfl (ty := tyX5 20) (v := .int (nI 0)) (tyX5_ok 20 (by decide)) rfl rfl (Nat.le_of_ble_eq_true rfl) dX5_copies_2 (fun H locs hW hS => ?_)
  have hW : k_H g ad (set_m_l t 0) H := kt_m_l (t := t) 0 rfl hW
  refine lv_iconst (v := nI 0) hx hb dX5_copies_5 (by decide) ?_
  refine lv_istore_n (lv' := [(1, .int (nI 0)), (0, .ref (ad 9 0))]) hx hb dX5_copies_6 rfl hl (by decide) rfl (fun ls hl => ?_)
  refine lv_iconst (v := nI 0) hx hb dX5_copies_7 (by decide) ?_
  refine lv_istore_n (lv' := [(2, .int (nI 0)), (1, .int (nI 0)), (0, .ref (ad 9 0))]) hx hb dX5_copies_8 rfl hl (by decide) rfl (fun ls hl => ?_)
  have hloop_9 : ∀ (n : Nat) (i : Nat) (cn : Nat), (m_md t < i + n) → (i ≤ m_md t) → (cn = k_cb (m_th t) i) → ∀ (H : Heap) (locs : List Loc), k_H g ad (set_m_l t 0) H → va_S (k_A g) s.heap H locs → ∀ (ls : Array Slot), lv_has ls 3 [(0, .ref (ad 9 0)), (1, .int (nI cn)), (2, .int (nI i))] → W p l e rm_X5_copies s m args below meth c H locs 0 0 Q (F0 m 9 ls []) := by
    intro n
    induction n with
    | zero =>
      intro i cn hfu hi hcn
      exact absurd hfu (by omega)
    | succ n ih =>
      intro i cn hfu hi hcn H locs hW hS ls hl
      refine lv_iload_n hx hb dX5_copies_9 rfl (lv_at hl 2 rfl) ?_
      refine lv_aload_n hx hb dX5_copies_10 rfl (lv_at hl 0 rfl) ?_
      refine k_get (own := RX5) (C := RX5) (T := TX5) (N := 21) hx hb hts hinX5 hown hK hW (kc_9 g ad (set_m_l t 0)) rfl 12 (by decide) (hts (.fieldLink RX5 66 "DrillVaultModel" "made" "I") (by decide +kernel)) rfl (v := .int (nI (m_md t))) rfl dX5_copies_11 ?_
      refine k_icmp_ge (tgt := 40) hx hb (a := i) (b := m_md t) (by omega) (by omega) dX5_copies_14 (by decide) (fun h_14 => ?_) (fun h_14 => ?_)
      · refine lv_iload_n hx hb dX5_copies_40 rfl (lv_at hl 1 rfl) ?_
        exact k_ri hQ hx hb hr hlk hS hW ⟨by rw [hcn, show i = m_md t by omega], rfl⟩ (Nat.le_of_ble_eq_true rfl) (Nat.le_of_ble_eq_true rfl) dX5_copies_41
      · refine lv_iload_n hx hb dX5_copies_17 rfl (lv_at hl 1 rfl) ?_
        refine lv_aload_n hx hb dX5_copies_18 rfl (lv_at hl 0 rfl) ?_
        refine k_get (own := RX5) (C := RX5) (T := TX5) (N := 21) hx hb hts hinX5 hown hK hW (kc_9 g ad (set_m_l t 0)) rfl 9 (by decide) (hts (.fieldLink RX5 31 "DrillVaultModel" "there" "[Z") (by decide +kernel)) rfl (v := .ref (ad 17 0)) rfl dX5_copies_19 ?_
        refine lv_iload_n hx hb dX5_copies_22 rfl (lv_at hl 2 rfl) ?_
        refine k_zald hx hb hK hW (kc_17 g ad (set_m_l t 0)) i rfl (by omega) (by decide) dX5_copies_23 ?_
        refine k_tov (y := .int (kb (m_th t i))) rfl ?_
        refine k_ifz_eq (tgt := 31) hx hb dX5_copies_24 (by decide) (fun h_24 => ?_) (fun h_24 => ?_)
        · refine lv_iconst (v := nI 0) hx hb dX5_copies_31 (by decide) ?_
          refine k_iadd hx hb dX5_copies_32 ?_
          refine lv_istore_n (lv' := [(1, .int (nI (cn + 0))), (0, .ref (ad 9 0)), (2, .int (nI i))]) hx hb dX5_copies_33 rfl hl (by decide) rfl (fun ls hl => ?_)
          refine lv_iinc (v := nI (i + 1)) (lv' := [(2, .int (nI (i + 1))), (1, .int (nI (cn + 0))), (0, .ref (ad 9 0))]) hx hb dX5_copies_34 hl (k := 2) rfl (nI_add _ _) (by decide) rfl (fun ls hl => ?_)
          refine lv_goto (tgt := 9) hx hb dX5_copies_37 (by decide) ?_
          exact ih (i + 1) (cn + 0) (by omega) (by omega) (by rw [k_cb_n h_24, hcn, Nat.add_zero]) _ _ hW hS _ (lv_sub hl [2, 1, 0] rfl)
        · refine lv_iconst (v := nI 1) hx hb dX5_copies_27 (by decide) ?_
          refine lv_goto (tgt := 32) hx hb dX5_copies_28 (by decide) ?_
          refine k_iadd hx hb dX5_copies_32 ?_
          refine lv_istore_n (lv' := [(1, .int (nI (cn + 1))), (0, .ref (ad 9 0)), (2, .int (nI i))]) hx hb dX5_copies_33 rfl hl (by decide) rfl (fun ls hl => ?_)
          refine lv_iinc (v := nI (i + 1)) (lv' := [(2, .int (nI (i + 1))), (1, .int (nI (cn + 1))), (0, .ref (ad 9 0))]) hx hb dX5_copies_34 hl (k := 2) rfl (nI_add _ _) (by decide) rfl (fun ls hl => ?_)
          refine lv_goto (tgt := 9) hx hb dX5_copies_37 (by decide) ?_
          exact ih (i + 1) (cn + 1) (by omega) (by omega) (by rw [k_cb_y h_24, hcn]) _ _ hW hS _ (lv_sub hl [2, 1, 0] rfl)
  exact hloop_9 (m_md t + 1) 0 0 (by omega) (by omega) rfl _ _ hW hS _ (lv_sub hl [2, 1, 0] rfl)
abbrev rm_X5_space : Room := { frames := 0, cells := 0, slots := 0, locals := 0 }
set_option maxRecDepth 100000 in
set_option maxHeartbeats 4000000 in
theorem c_X5_space (l : Launch) (hlt : l.stackTraces = false) (g : k_g) (ad : k_AD) (t : k_T) (hm60 : m_md t ≤ 60) : Met l yX5_space wsX5_space rm_X5_space (va_Pc [.ref (ad 9 0)] (k_I g (k_ct g ad t) ad)) (va_Qi (fun r u => r = nI (k_sm (m_th t) (fun k => (m_sz t) k + 1) (m_md t)) ∧ u = set_m_l t 0) (fun u U => k_H g ad u U.heap) (k_A g)) 0 0 (k_A g) := by
  refine k_met (cc := cX5_space) (maxL := 3) (ret := (some .int)) (by decide) rfl (Nat.le_of_ble_eq_true rfl) (fun p e s m args below meth c Q ls hQ hx hb hr hml hts hown hlk hin hK hZ hN hW hS hl => ?_)
  have hown : s.vm.findClass RX5 = some m.cls := hown
  have hW : k_H g ad t s.heap := hW
  have hl : lv_has ls 3 [(0, .ref (ad 9 0))] := hl
  have hinX5 : ∀ w ∈ wsX50, w ∈ wsX5_space := by decide +kernel
  refine lv_aload_n hx hb dX5_space_0 rfl (lv_at hl 0 rfl) ?_
  refine lv_iconst (v := nI 0) hx hb dX5_space_1 (by decide) ?_
  refine k_put (own := RX5) (C := RX5) (T := TX5) (N := 21) hx hb hts hinX5 tyX5 tyX5_ok nmX5 hown hK hW hS (kc_9 g ad t) rfl 20 (by decide) (hts (.fieldLink RX5 63 "DrillVaultModel" "last" "I") (by decide +kernel)) rfl rfl (ty := tyX5 20) (v := .int (nI 0)) (tyX5_ok 20 (by decide)) rfl rfl (Nat.le_of_ble_eq_true rfl) dX5_space_2 (fun H locs hW hS => ?_)
  have hW : k_H g ad (set_m_l t 0) H := kt_m_l (t := t) 0 rfl hW
  refine lv_iconst (v := nI 0) hx hb dX5_space_5 (by decide) ?_
  refine lv_istore_n (lv' := [(1, .int (nI 0)), (0, .ref (ad 9 0))]) hx hb dX5_space_6 rfl hl (by decide) rfl (fun ls hl => ?_)
  refine lv_iconst (v := nI 0) hx hb dX5_space_7 (by decide) ?_
  refine lv_istore_n (lv' := [(2, .int (nI 0)), (1, .int (nI 0)), (0, .ref (ad 9 0))]) hx hb dX5_space_8 rfl hl (by decide) rfl (fun ls hl => ?_)
  have hloop_9 : ∀ (n : Nat) (i : Nat) (cn : Nat), (m_md t < i + n) → (i ≤ m_md t) → (cn = k_sm (m_th t) (fun k => m_sz t k + 1) i) → ∀ (H : Heap) (locs : List Loc), k_H g ad (set_m_l t 0) H → va_S (k_A g) s.heap H locs → ∀ (ls : Array Slot), lv_has ls 3 [(0, .ref (ad 9 0)), (1, .int (nI cn)), (2, .int (nI i))] → W p l e rm_X5_space s m args below meth c H locs 0 0 Q (F0 m 9 ls []) := by
    intro n
    induction n with
    | zero =>
      intro i cn hfu hi hcn
      exact absurd hfu (by omega)
    | succ n ih =>
      intro i cn hfu hi hcn H locs hW hS ls hl
      refine lv_iload_n hx hb dX5_space_9 rfl (lv_at hl 2 rfl) ?_
      refine lv_aload_n hx hb dX5_space_10 rfl (lv_at hl 0 rfl) ?_
      refine k_get (own := RX5) (C := RX5) (T := TX5) (N := 21) hx hb hts hinX5 hown hK hW (kc_9 g ad (set_m_l t 0)) rfl 12 (by decide) (hts (.fieldLink RX5 66 "DrillVaultModel" "made" "I") (by decide +kernel)) rfl (v := .int (nI (m_md t))) rfl dX5_space_11 ?_
      refine k_icmp_ge (tgt := 47) hx hb (a := i) (b := m_md t) (by omega) (by omega) dX5_space_14 (by decide) (fun h_14 => ?_) (fun h_14 => ?_)
      · refine lv_iload_n hx hb dX5_space_47 rfl (lv_at hl 1 rfl) ?_
        exact k_ri hQ hx hb hr hlk hS hW ⟨by rw [hcn, show i = m_md t by omega], rfl⟩ (Nat.le_of_ble_eq_true rfl) (Nat.le_of_ble_eq_true rfl) dX5_space_48
      · refine lv_iload_n hx hb dX5_space_17 rfl (lv_at hl 1 rfl) ?_
        refine lv_aload_n hx hb dX5_space_18 rfl (lv_at hl 0 rfl) ?_
        refine k_get (own := RX5) (C := RX5) (T := TX5) (N := 21) hx hb hts hinX5 hown hK hW (kc_9 g ad (set_m_l t 0)) rfl 9 (by decide) (hts (.fieldLink RX5 31 "DrillVaultModel" "there" "[Z") (by decide +kernel)) rfl (v := .ref (ad 17 0)) rfl dX5_space_19 ?_
        refine lv_iload_n hx hb dX5_space_22 rfl (lv_at hl 2 rfl) ?_
        refine k_zald hx hb hK hW (kc_17 g ad (set_m_l t 0)) i rfl (by omega) (by decide) dX5_space_23 ?_
        refine k_tov (y := .int (kb (m_th t i))) rfl ?_
        refine k_ifz_eq (tgt := 38) hx hb dX5_space_24 (by decide) (fun h_24 => ?_) (fun h_24 => ?_)
        · refine lv_iconst (v := nI 0) hx hb dX5_space_38 (by decide) ?_
          refine k_iadd hx hb dX5_space_39 ?_
          refine lv_istore_n (lv' := [(1, .int (nI (cn + 0))), (0, .ref (ad 9 0)), (2, .int (nI i))]) hx hb dX5_space_40 rfl hl (by decide) rfl (fun ls hl => ?_)
          refine lv_iinc (v := nI (i + 1)) (lv' := [(2, .int (nI (i + 1))), (1, .int (nI (cn + 0))), (0, .ref (ad 9 0))]) hx hb dX5_space_41 hl (k := 2) rfl (nI_add _ _) (by decide) rfl (fun ls hl => ?_)
          refine lv_goto (tgt := 9) hx hb dX5_space_44 (by decide) ?_
          exact ih (i + 1) (cn + 0) (by omega) (by omega) (by rw [k_sm_n h_24, hcn, Nat.add_zero]) _ _ hW hS _ (lv_sub hl [2, 1, 0] rfl)
        · refine lv_aload_n hx hb dX5_space_27 rfl (lv_at hl 0 rfl) ?_
          refine k_get (own := RX5) (C := RX5) (T := TX5) (N := 21) hx hb hts hinX5 hown hK hW (kc_9 g ad (set_m_l t 0)) rfl 6 (by decide) (hts (.fieldLink RX5 22 "DrillVaultModel" "sizes" "[I") (by decide +kernel)) rfl (v := .ref (ad 14 0)) rfl dX5_space_28 ?_
          refine lv_iload_n hx hb dX5_space_31 rfl (lv_at hl 2 rfl) ?_
          refine k_iald hx hb hK hW (kc_14 g ad (set_m_l t 0)) i rfl (by omega) (by decide) dX5_space_32 ?_
          refine k_tov (y := .int (nI (m_sz t i))) rfl ?_
          refine lv_iconst (v := nI 1) hx hb dX5_space_33 (by decide) ?_
          refine k_iadd hx hb dX5_space_34 ?_
          refine lv_goto (tgt := 39) hx hb dX5_space_35 (by decide) ?_
          refine k_iadd hx hb dX5_space_39 ?_
          refine lv_istore_n (lv' := [(1, .int (nI (cn + ((m_sz t i) + 1)))), (0, .ref (ad 9 0)), (2, .int (nI i))]) hx hb dX5_space_40 rfl hl (by decide) rfl (fun ls hl => ?_)
          refine lv_iinc (v := nI (i + 1)) (lv' := [(2, .int (nI (i + 1))), (1, .int (nI (cn + ((m_sz t i) + 1)))), (0, .ref (ad 9 0))]) hx hb dX5_space_41 hl (k := 2) rfl (nI_add _ _) (by decide) rfl (fun ls hl => ?_)
          refine lv_goto (tgt := 9) hx hb dX5_space_44 (by decide) ?_
          exact ih (i + 1) (cn + ((m_sz t i) + 1)) (by omega) (by omega) (by rw [k_sm_y h_24, hcn]) _ _ hW hS _ (lv_sub hl [2, 1, 0] rfl)
  exact hloop_9 (m_md t + 1) 0 0 (by omega) (by omega) rfl _ _ hW hS _ (lv_sub hl [2, 1, 0] rfl)
abbrev rm_X5_dayOf : Room := { frames := 2, cells := 0, slots := 0, locals := 43 }
set_option maxRecDepth 100000 in
set_option maxHeartbeats 4000000 in
theorem c_X5_dayOf_b (l : Launch) (hlt : l.stackTraces = false) (g : k_g) (ad : k_AD) (t : k_T) (z : Int32) (hz : z < 0 ∨ nI 60 ≤ z ∨ ∃ j, j < 60 ∧ z = nI j ∧ m_th t j = false) (hm60 : m_md t ≤ 60) : Met l yX5_dayOf wsX5_dayOf rm_X5_dayOf (va_Pc [.ref (ad 9 0), .int z] (k_I g (k_ct g ad t) ad)) (va_Qi (fun r u => r = nI 0 ∧ u = set_m_l t 1) (fun u U => k_H g ad u U.heap) (k_A g)) 0 0 (k_A g) := by
  refine k_met (cc := cX5_dayOf) (maxL := 2) (ret := (some .int)) (by decide) rfl (Nat.le_of_ble_eq_true rfl) (fun p e s m args below meth c Q ls hQ hx hb hr hml hts hown hlk hin hK hZ hN hW hS hl => ?_)
  have hown : s.vm.findClass RX5 = some m.cls := hown
  have hW : k_H g ad t s.heap := hW
  have hl : lv_has ls 2 [(0, .ref (ad 9 0)), (1, .int z)] := hl
  refine lv_aload_n hx hb dX5_dayOf_0 rfl (lv_at hl 0 rfl) ?_
  refine lv_aload_n hx hb dX5_dayOf_1 rfl (lv_at hl 0 rfl) ?_
  refine lv_iload_n hx hb dX5_dayOf_2 rfl (lv_at hl 1 rfl) ?_
  refine k_ci (va_runV (As := [.int z]) (rest := [.ref (ad 9 0)]) ⟨hx, hb, hml, hown, hts⟩ (c_X5_isCopy_b l hlt g ad t z hz hm60) (cwV 1 hts gX5_dayOf_X5_isCopy rfl rfl rfl (by decide +kernel) ⟨(Nat.le_of_ble_eq_true rfl), (Nat.le_of_ble_eq_true rfl)⟩) ⟨k_blind, k_recv hK hW (kc_9 g ad t) rfl, fun U hU hw => ⟨rfl, k_I.of hK hZ hN hS hW hU hw⟩⟩ rfl rfl hl.1 rfl (lv_room (Nat.le_of_ble_eq_true rfl)) dX5_dayOf_3 ⟨(Nat.le_of_ble_eq_true rfl), (Nat.le_of_ble_eq_true rfl)⟩) hS (fun r u H locs hpo hW hS => ?_)
  obtain ⟨hr9, hu9⟩ := hpo; replace hu9 := hu9.symm; subst hu9; replace hr9 := hr9.symm; subst hr9
  refine lv_iconst (v := nI 1) hx hb dX5_dayOf_6 (by decide) ?_
  refine lv_iconst (v := nI 1) hx hb dX5_dayOf_7 (by decide) ?_
  refine k_ci (va_runV (As := [.int (nI 0), .int (nI 1), .int (nI 1)]) (rest := []) ⟨hx, hb, hml, hown, hts⟩ (c_X5_goes_1 l hlt g ad t (nI 1) (nI 1) ) (cwV 3 hts gX5_dayOf_X5_goes rfl rfl rfl (by decide +kernel) ⟨(Nat.le_of_ble_eq_true rfl), (Nat.le_of_ble_eq_true rfl)⟩) ⟨k_blind, k_recv hK hW (kc_9 g ad t) rfl, fun U hU hw => ⟨rfl, k_I.of hK hZ hN hS hW hU hw⟩⟩ rfl rfl hl.1 rfl (lv_room (Nat.le_of_ble_eq_true rfl)) dX5_dayOf_8 ⟨(Nat.le_of_ble_eq_true rfl), (Nat.le_of_ble_eq_true rfl)⟩) hS (fun r u H locs hpo hW hS => ?_)
  obtain ⟨hr9, hu9⟩ := hpo; replace hu9 := hu9.symm; subst hu9; replace hr9 := hr9.symm; subst hr9
  have hW : k_H g ad (set_m_l t 1) H := hW
  refine lv_if_eq (tgt := 23) hx hb dX5_dayOf_11 (by decide) (fun h_11 => ?_) (fun h_11 => absurd h_11 (by decide))
  refine lv_iconst (v := nI 0) hx hb dX5_dayOf_23 (by decide) ?_
  exact k_ri hQ hx hb hr hlk hS hW ⟨rfl, rfl⟩ (Nat.le_of_ble_eq_true rfl) (Nat.le_of_ble_eq_true rfl) dX5_dayOf_24
set_option maxRecDepth 100000 in
set_option maxHeartbeats 4000000 in
theorem c_X5_dayOf_ok (l : Launch) (hlt : l.stackTraces = false) (g : k_g) (ad : k_AD) (t : k_T) (j : Nat) (hj : j < 60) (hs : m_th t j = true) (hmt : ∀ j, m_th t j = true → j < m_md t) (hm60 : m_md t ≤ 60) : Met l yX5_dayOf wsX5_dayOf rm_X5_dayOf (va_Pc [.ref (ad 9 0), .int (nI j)] (k_I g (k_ct g ad t) ad)) (va_Qi (fun r u => r = nI (m_on t j) ∧ u = set_m_l t 0) (fun u U => k_H g ad u U.heap) (k_A g)) 0 0 (k_A g) := by
  refine k_met (cc := cX5_dayOf) (maxL := 2) (ret := (some .int)) (by decide) rfl (Nat.le_of_ble_eq_true rfl) (fun p e s m args below meth c Q ls hQ hx hb hr hml hts hown hlk hin hK hZ hN hW hS hl => ?_)
  have hown : s.vm.findClass RX5 = some m.cls := hown
  have hW : k_H g ad t s.heap := hW
  have hl : lv_has ls 2 [(0, .ref (ad 9 0)), (1, .int (nI j))] := hl
  have hinX5 : ∀ w ∈ wsX50, w ∈ wsX5_dayOf := by decide +kernel
  refine lv_aload_n hx hb dX5_dayOf_0 rfl (lv_at hl 0 rfl) ?_
  refine lv_aload_n hx hb dX5_dayOf_1 rfl (lv_at hl 0 rfl) ?_
  refine lv_iload_n hx hb dX5_dayOf_2 rfl (lv_at hl 1 rfl) ?_
  refine k_ci (va_runV (As := [.int (nI j)]) (rest := [.ref (ad 9 0)]) ⟨hx, hb, hml, hown, hts⟩ (c_X5_isCopy l hlt g ad t j hs hmt hm60) (cwV 1 hts gX5_dayOf_X5_isCopy rfl rfl rfl (by decide +kernel) ⟨(Nat.le_of_ble_eq_true rfl), (Nat.le_of_ble_eq_true rfl)⟩) ⟨k_blind, k_recv hK hW (kc_9 g ad t) rfl, fun U hU hw => ⟨rfl, k_I.of hK hZ hN hS hW hU hw⟩⟩ rfl rfl hl.1 rfl (lv_room (Nat.le_of_ble_eq_true rfl)) dX5_dayOf_3 ⟨(Nat.le_of_ble_eq_true rfl), (Nat.le_of_ble_eq_true rfl)⟩) hS (fun r u H locs hpo hW hS => ?_)
  obtain ⟨hr9, hu9⟩ := hpo; replace hu9 := hu9.symm; subst hu9; replace hr9 := hr9.symm; subst hr9
  refine lv_iconst (v := nI 1) hx hb dX5_dayOf_6 (by decide) ?_
  refine lv_iconst (v := nI 1) hx hb dX5_dayOf_7 (by decide) ?_
  refine k_ci (va_runV (As := [.int (nI 1), .int (nI 1), .int (nI 1)]) (rest := []) ⟨hx, hb, hml, hown, hts⟩ (c_X5_goes_0 l hlt g ad t ) (cwV 3 hts gX5_dayOf_X5_goes rfl rfl rfl (by decide +kernel) ⟨(Nat.le_of_ble_eq_true rfl), (Nat.le_of_ble_eq_true rfl)⟩) ⟨k_blind, k_recv hK hW (kc_9 g ad t) rfl, fun U hU hw => ⟨rfl, k_I.of hK hZ hN hS hW hU hw⟩⟩ rfl rfl hl.1 rfl (lv_room (Nat.le_of_ble_eq_true rfl)) dX5_dayOf_8 ⟨(Nat.le_of_ble_eq_true rfl), (Nat.le_of_ble_eq_true rfl)⟩) hS (fun r u H locs hpo hW hS => ?_)
  obtain ⟨hr9, hu9⟩ := hpo; replace hu9 := hu9.symm; subst hu9; replace hr9 := hr9.symm; subst hr9
  have hW : k_H g ad (set_m_l t 0) H := hW
  refine lv_if_eq (tgt := 23) hx hb dX5_dayOf_11 (by decide) (fun h_11 => absurd h_11 (by decide)) (fun h_11 => ?_)
  refine lv_aload_n hx hb dX5_dayOf_14 rfl (lv_at hl 0 rfl) ?_
  refine k_get (own := RX5) (C := RX5) (T := TX5) (N := 21) hx hb hts hinX5 hown hK hW (kc_9 g ad (set_m_l t 0)) rfl 4 (by decide) (hts (.fieldLink RX5 16 "DrillVaultModel" "days" "[I") (by decide +kernel)) rfl (v := .ref (ad 12 0)) rfl dX5_dayOf_15 ?_
  refine lv_iload_n hx hb dX5_dayOf_18 rfl (lv_at hl 1 rfl) ?_
  refine k_iald hx hb hK hW (kc_12 g ad (set_m_l t 0)) j rfl (by have := hmt _ hs; omega) (by decide) dX5_dayOf_19 ?_
  refine k_tov (y := .int (nI (m_on t j))) rfl ?_
  refine lv_goto (tgt := 24) hx hb dX5_dayOf_20 (by decide) ?_
  exact k_ri hQ hx hb hr hlk hS hW ⟨rfl, rfl⟩ (Nat.le_of_ble_eq_true rfl) (Nat.le_of_ble_eq_true rfl) dX5_dayOf_24
abbrev rm_X5_baseOf : Room := { frames := 2, cells := 0, slots := 0, locals := 43 }
set_option maxRecDepth 100000 in
set_option maxHeartbeats 4000000 in
theorem c_X5_baseOf_b (l : Launch) (hlt : l.stackTraces = false) (g : k_g) (ad : k_AD) (t : k_T) (z : Int32) (hz : z < 0 ∨ nI 60 ≤ z ∨ ∃ j, j < 60 ∧ z = nI j ∧ m_th t j = false) (hm60 : m_md t ≤ 60) : Met l yX5_baseOf wsX5_baseOf rm_X5_baseOf (va_Pc [.ref (ad 9 0), .int z] (k_I g (k_ct g ad t) ad)) (va_Qi (fun r u => r = nI 0 ∧ u = set_m_l t 1) (fun u U => k_H g ad u U.heap) (k_A g)) 0 0 (k_A g) := by
  refine k_met (cc := cX5_baseOf) (maxL := 2) (ret := (some .int)) (by decide) rfl (Nat.le_of_ble_eq_true rfl) (fun p e s m args below meth c Q ls hQ hx hb hr hml hts hown hlk hin hK hZ hN hW hS hl => ?_)
  have hown : s.vm.findClass RX5 = some m.cls := hown
  have hW : k_H g ad t s.heap := hW
  have hl : lv_has ls 2 [(0, .ref (ad 9 0)), (1, .int z)] := hl
  refine lv_aload_n hx hb dX5_baseOf_0 rfl (lv_at hl 0 rfl) ?_
  refine lv_aload_n hx hb dX5_baseOf_1 rfl (lv_at hl 0 rfl) ?_
  refine lv_iload_n hx hb dX5_baseOf_2 rfl (lv_at hl 1 rfl) ?_
  refine k_ci (va_runV (As := [.int z]) (rest := [.ref (ad 9 0)]) ⟨hx, hb, hml, hown, hts⟩ (c_X5_isCopy_b l hlt g ad t z hz hm60) (cwV 1 hts gX5_baseOf_X5_isCopy rfl rfl rfl (by decide +kernel) ⟨(Nat.le_of_ble_eq_true rfl), (Nat.le_of_ble_eq_true rfl)⟩) ⟨k_blind, k_recv hK hW (kc_9 g ad t) rfl, fun U hU hw => ⟨rfl, k_I.of hK hZ hN hS hW hU hw⟩⟩ rfl rfl hl.1 rfl (lv_room (Nat.le_of_ble_eq_true rfl)) dX5_baseOf_3 ⟨(Nat.le_of_ble_eq_true rfl), (Nat.le_of_ble_eq_true rfl)⟩) hS (fun r u H locs hpo hW hS => ?_)
  obtain ⟨hr9, hu9⟩ := hpo; replace hu9 := hu9.symm; subst hu9; replace hr9 := hr9.symm; subst hr9
  refine lv_iconst (v := nI 1) hx hb dX5_baseOf_6 (by decide) ?_
  refine lv_iconst (v := nI 1) hx hb dX5_baseOf_7 (by decide) ?_
  refine k_ci (va_runV (As := [.int (nI 0), .int (nI 1), .int (nI 1)]) (rest := []) ⟨hx, hb, hml, hown, hts⟩ (c_X5_goes_1 l hlt g ad t (nI 1) (nI 1) ) (cwV 3 hts gX5_baseOf_X5_goes rfl rfl rfl (by decide +kernel) ⟨(Nat.le_of_ble_eq_true rfl), (Nat.le_of_ble_eq_true rfl)⟩) ⟨k_blind, k_recv hK hW (kc_9 g ad t) rfl, fun U hU hw => ⟨rfl, k_I.of hK hZ hN hS hW hU hw⟩⟩ rfl rfl hl.1 rfl (lv_room (Nat.le_of_ble_eq_true rfl)) dX5_baseOf_8 ⟨(Nat.le_of_ble_eq_true rfl), (Nat.le_of_ble_eq_true rfl)⟩) hS (fun r u H locs hpo hW hS => ?_)
  obtain ⟨hr9, hu9⟩ := hpo; replace hu9 := hu9.symm; subst hu9; replace hr9 := hr9.symm; subst hr9
  have hW : k_H g ad (set_m_l t 1) H := hW
  refine lv_if_eq (tgt := 23) hx hb dX5_baseOf_11 (by decide) (fun h_11 => ?_) (fun h_11 => absurd h_11 (by decide))
  refine lv_iconst (v := nI 0) hx hb dX5_baseOf_23 (by decide) ?_
  exact k_ri hQ hx hb hr hlk hS hW ⟨rfl, rfl⟩ (Nat.le_of_ble_eq_true rfl) (Nat.le_of_ble_eq_true rfl) dX5_baseOf_24
set_option maxRecDepth 100000 in
set_option maxHeartbeats 4000000 in
theorem c_X5_baseOf_ok (l : Launch) (hlt : l.stackTraces = false) (g : k_g) (ad : k_AD) (t : k_T) (j : Nat) (hj : j < 60) (hs : m_th t j = true) (hmt : ∀ j, m_th t j = true → j < m_md t) (hm60 : m_md t ≤ 60) : Met l yX5_baseOf wsX5_baseOf rm_X5_baseOf (va_Pc [.ref (ad 9 0), .int (nI j)] (k_I g (k_ct g ad t) ad)) (va_Qi (fun r u => r = kO (m_b t j) ∧ u = set_m_l t 0) (fun u U => k_H g ad u U.heap) (k_A g)) 0 0 (k_A g) := by
  refine k_met (cc := cX5_baseOf) (maxL := 2) (ret := (some .int)) (by decide) rfl (Nat.le_of_ble_eq_true rfl) (fun p e s m args below meth c Q ls hQ hx hb hr hml hts hown hlk hin hK hZ hN hW hS hl => ?_)
  have hown : s.vm.findClass RX5 = some m.cls := hown
  have hW : k_H g ad t s.heap := hW
  have hl : lv_has ls 2 [(0, .ref (ad 9 0)), (1, .int (nI j))] := hl
  have hinX5 : ∀ w ∈ wsX50, w ∈ wsX5_baseOf := by decide +kernel
  refine lv_aload_n hx hb dX5_baseOf_0 rfl (lv_at hl 0 rfl) ?_
  refine lv_aload_n hx hb dX5_baseOf_1 rfl (lv_at hl 0 rfl) ?_
  refine lv_iload_n hx hb dX5_baseOf_2 rfl (lv_at hl 1 rfl) ?_
  refine k_ci (va_runV (As := [.int (nI j)]) (rest := [.ref (ad 9 0)]) ⟨hx, hb, hml, hown, hts⟩ (c_X5_isCopy l hlt g ad t j hs hmt hm60) (cwV 1 hts gX5_baseOf_X5_isCopy rfl rfl rfl (by decide +kernel) ⟨(Nat.le_of_ble_eq_true rfl), (Nat.le_of_ble_eq_true rfl)⟩) ⟨k_blind, k_recv hK hW (kc_9 g ad t) rfl, fun U hU hw => ⟨rfl, k_I.of hK hZ hN hS hW hU hw⟩⟩ rfl rfl hl.1 rfl (lv_room (Nat.le_of_ble_eq_true rfl)) dX5_baseOf_3 ⟨(Nat.le_of_ble_eq_true rfl), (Nat.le_of_ble_eq_true rfl)⟩) hS (fun r u H locs hpo hW hS => ?_)
  obtain ⟨hr9, hu9⟩ := hpo; replace hu9 := hu9.symm; subst hu9; replace hr9 := hr9.symm; subst hr9
  refine lv_iconst (v := nI 1) hx hb dX5_baseOf_6 (by decide) ?_
  refine lv_iconst (v := nI 1) hx hb dX5_baseOf_7 (by decide) ?_
  refine k_ci (va_runV (As := [.int (nI 1), .int (nI 1), .int (nI 1)]) (rest := []) ⟨hx, hb, hml, hown, hts⟩ (c_X5_goes_0 l hlt g ad t ) (cwV 3 hts gX5_baseOf_X5_goes rfl rfl rfl (by decide +kernel) ⟨(Nat.le_of_ble_eq_true rfl), (Nat.le_of_ble_eq_true rfl)⟩) ⟨k_blind, k_recv hK hW (kc_9 g ad t) rfl, fun U hU hw => ⟨rfl, k_I.of hK hZ hN hS hW hU hw⟩⟩ rfl rfl hl.1 rfl (lv_room (Nat.le_of_ble_eq_true rfl)) dX5_baseOf_8 ⟨(Nat.le_of_ble_eq_true rfl), (Nat.le_of_ble_eq_true rfl)⟩) hS (fun r u H locs hpo hW hS => ?_)
  obtain ⟨hr9, hu9⟩ := hpo; replace hu9 := hu9.symm; subst hu9; replace hr9 := hr9.symm; subst hr9
  have hW : k_H g ad (set_m_l t 0) H := hW
  refine lv_if_eq (tgt := 23) hx hb dX5_baseOf_11 (by decide) (fun h_11 => absurd h_11 (by decide)) (fun h_11 => ?_)
  refine lv_aload_n hx hb dX5_baseOf_14 rfl (lv_at hl 0 rfl) ?_
  refine k_get (own := RX5) (C := RX5) (T := TX5) (N := 21) hx hb hts hinX5 hown hK hW (kc_9 g ad (set_m_l t 0)) rfl 5 (by decide) (hts (.fieldLink RX5 19 "DrillVaultModel" "bases" "[I") (by decide +kernel)) rfl (v := .ref (ad 13 0)) rfl dX5_baseOf_15 ?_
  refine lv_iload_n hx hb dX5_baseOf_18 rfl (lv_at hl 1 rfl) ?_
  refine k_iald hx hb hK hW (kc_13 g ad (set_m_l t 0)) j rfl (by have := hmt _ hs; omega) (by decide) dX5_baseOf_19 ?_
  refine k_tov (y := .int (kO (m_b t j))) rfl ?_
  refine lv_goto (tgt := 24) hx hb dX5_baseOf_20 (by decide) ?_
  exact k_ri hQ hx hb hr hlk hS hW ⟨rfl, rfl⟩ (Nat.le_of_ble_eq_true rfl) (Nat.le_of_ble_eq_true rfl) dX5_baseOf_24
abbrev rm_X5_keeps : Room := { frames := 2, cells := 0, slots := 0, locals := 43 }
set_option maxRecDepth 100000 in
set_option maxHeartbeats 4000000 in
theorem c_X5_keeps_b (l : Launch) (hlt : l.stackTraces = false) (g : k_g) (ad : k_AD) (t : k_T) (z : Int32) (hz : z < 0 ∨ nI 60 ≤ z ∨ ∃ j, j < 60 ∧ z = nI j ∧ m_th t j = false) (hm60 : m_md t ≤ 60) : Met l yX5_keeps wsX5_keeps rm_X5_keeps (va_Pc [.ref (ad 9 0), .int z] (k_I g (k_ct g ad t) ad)) (va_Qi (fun r u => r = nI 0 ∧ u = set_m_l t 1) (fun u U => k_H g ad u U.heap) (k_A g)) 0 0 (k_A g) := by
  refine k_met (cc := cX5_keeps) (maxL := 2) (ret := (some .int)) (by decide) rfl (Nat.le_of_ble_eq_true rfl) (fun p e s m args below meth c Q ls hQ hx hb hr hml hts hown hlk hin hK hZ hN hW hS hl => ?_)
  have hown : s.vm.findClass RX5 = some m.cls := hown
  have hW : k_H g ad t s.heap := hW
  have hl : lv_has ls 2 [(0, .ref (ad 9 0)), (1, .int z)] := hl
  refine lv_aload_n hx hb dX5_keeps_0 rfl (lv_at hl 0 rfl) ?_
  refine lv_aload_n hx hb dX5_keeps_1 rfl (lv_at hl 0 rfl) ?_
  refine lv_iload_n hx hb dX5_keeps_2 rfl (lv_at hl 1 rfl) ?_
  refine k_ci (va_runV (As := [.int z]) (rest := [.ref (ad 9 0)]) ⟨hx, hb, hml, hown, hts⟩ (c_X5_isCopy_b l hlt g ad t z hz hm60) (cwV 1 hts gX5_keeps_X5_isCopy rfl rfl rfl (by decide +kernel) ⟨(Nat.le_of_ble_eq_true rfl), (Nat.le_of_ble_eq_true rfl)⟩) ⟨k_blind, k_recv hK hW (kc_9 g ad t) rfl, fun U hU hw => ⟨rfl, k_I.of hK hZ hN hS hW hU hw⟩⟩ rfl rfl hl.1 rfl (lv_room (Nat.le_of_ble_eq_true rfl)) dX5_keeps_3 ⟨(Nat.le_of_ble_eq_true rfl), (Nat.le_of_ble_eq_true rfl)⟩) hS (fun r u H locs hpo hW hS => ?_)
  obtain ⟨hr9, hu9⟩ := hpo; replace hu9 := hu9.symm; subst hu9; replace hr9 := hr9.symm; subst hr9
  refine lv_iconst (v := nI 1) hx hb dX5_keeps_6 (by decide) ?_
  refine lv_iconst (v := nI 1) hx hb dX5_keeps_7 (by decide) ?_
  refine k_ci (va_runV (As := [.int (nI 0), .int (nI 1), .int (nI 1)]) (rest := []) ⟨hx, hb, hml, hown, hts⟩ (c_X5_goes_1 l hlt g ad t (nI 1) (nI 1) ) (cwV 3 hts gX5_keeps_X5_goes rfl rfl rfl (by decide +kernel) ⟨(Nat.le_of_ble_eq_true rfl), (Nat.le_of_ble_eq_true rfl)⟩) ⟨k_blind, k_recv hK hW (kc_9 g ad t) rfl, fun U hU hw => ⟨rfl, k_I.of hK hZ hN hS hW hU hw⟩⟩ rfl rfl hl.1 rfl (lv_room (Nat.le_of_ble_eq_true rfl)) dX5_keeps_8 ⟨(Nat.le_of_ble_eq_true rfl), (Nat.le_of_ble_eq_true rfl)⟩) hS (fun r u H locs hpo hW hS => ?_)
  obtain ⟨hr9, hu9⟩ := hpo; replace hu9 := hu9.symm; subst hu9; replace hr9 := hr9.symm; subst hr9
  have hW : k_H g ad (set_m_l t 1) H := hW
  refine lv_if_eq (tgt := 23) hx hb dX5_keeps_11 (by decide) (fun h_11 => ?_) (fun h_11 => absurd h_11 (by decide))
  refine lv_iconst (v := nI 0) hx hb dX5_keeps_23 (by decide) ?_
  exact k_ri hQ hx hb hr hlk hS hW ⟨rfl, rfl⟩ (Nat.le_of_ble_eq_true rfl) (Nat.le_of_ble_eq_true rfl) dX5_keeps_24
set_option maxRecDepth 100000 in
set_option maxHeartbeats 4000000 in
theorem c_X5_keeps_ok (l : Launch) (hlt : l.stackTraces = false) (g : k_g) (ad : k_AD) (t : k_T) (j : Nat) (hj : j < 60) (hs : m_th t j = true) (hmt : ∀ j, m_th t j = true → j < m_md t) (hm60 : m_md t ≤ 60) : Met l yX5_keeps wsX5_keeps rm_X5_keeps (va_Pc [.ref (ad 9 0), .int (nI j)] (k_I g (k_ct g ad t) ad)) (va_Qi (fun r u => r = nI (m_sz t j) ∧ u = set_m_l t 0) (fun u U => k_H g ad u U.heap) (k_A g)) 0 0 (k_A g) := by
  refine k_met (cc := cX5_keeps) (maxL := 2) (ret := (some .int)) (by decide) rfl (Nat.le_of_ble_eq_true rfl) (fun p e s m args below meth c Q ls hQ hx hb hr hml hts hown hlk hin hK hZ hN hW hS hl => ?_)
  have hown : s.vm.findClass RX5 = some m.cls := hown
  have hW : k_H g ad t s.heap := hW
  have hl : lv_has ls 2 [(0, .ref (ad 9 0)), (1, .int (nI j))] := hl
  have hinX5 : ∀ w ∈ wsX50, w ∈ wsX5_keeps := by decide +kernel
  refine lv_aload_n hx hb dX5_keeps_0 rfl (lv_at hl 0 rfl) ?_
  refine lv_aload_n hx hb dX5_keeps_1 rfl (lv_at hl 0 rfl) ?_
  refine lv_iload_n hx hb dX5_keeps_2 rfl (lv_at hl 1 rfl) ?_
  refine k_ci (va_runV (As := [.int (nI j)]) (rest := [.ref (ad 9 0)]) ⟨hx, hb, hml, hown, hts⟩ (c_X5_isCopy l hlt g ad t j hs hmt hm60) (cwV 1 hts gX5_keeps_X5_isCopy rfl rfl rfl (by decide +kernel) ⟨(Nat.le_of_ble_eq_true rfl), (Nat.le_of_ble_eq_true rfl)⟩) ⟨k_blind, k_recv hK hW (kc_9 g ad t) rfl, fun U hU hw => ⟨rfl, k_I.of hK hZ hN hS hW hU hw⟩⟩ rfl rfl hl.1 rfl (lv_room (Nat.le_of_ble_eq_true rfl)) dX5_keeps_3 ⟨(Nat.le_of_ble_eq_true rfl), (Nat.le_of_ble_eq_true rfl)⟩) hS (fun r u H locs hpo hW hS => ?_)
  obtain ⟨hr9, hu9⟩ := hpo; replace hu9 := hu9.symm; subst hu9; replace hr9 := hr9.symm; subst hr9
  refine lv_iconst (v := nI 1) hx hb dX5_keeps_6 (by decide) ?_
  refine lv_iconst (v := nI 1) hx hb dX5_keeps_7 (by decide) ?_
  refine k_ci (va_runV (As := [.int (nI 1), .int (nI 1), .int (nI 1)]) (rest := []) ⟨hx, hb, hml, hown, hts⟩ (c_X5_goes_0 l hlt g ad t ) (cwV 3 hts gX5_keeps_X5_goes rfl rfl rfl (by decide +kernel) ⟨(Nat.le_of_ble_eq_true rfl), (Nat.le_of_ble_eq_true rfl)⟩) ⟨k_blind, k_recv hK hW (kc_9 g ad t) rfl, fun U hU hw => ⟨rfl, k_I.of hK hZ hN hS hW hU hw⟩⟩ rfl rfl hl.1 rfl (lv_room (Nat.le_of_ble_eq_true rfl)) dX5_keeps_8 ⟨(Nat.le_of_ble_eq_true rfl), (Nat.le_of_ble_eq_true rfl)⟩) hS (fun r u H locs hpo hW hS => ?_)
  obtain ⟨hr9, hu9⟩ := hpo; replace hu9 := hu9.symm; subst hu9; replace hr9 := hr9.symm; subst hr9
  have hW : k_H g ad (set_m_l t 0) H := hW
  refine lv_if_eq (tgt := 23) hx hb dX5_keeps_11 (by decide) (fun h_11 => absurd h_11 (by decide)) (fun h_11 => ?_)
  refine lv_aload_n hx hb dX5_keeps_14 rfl (lv_at hl 0 rfl) ?_
  refine k_get (own := RX5) (C := RX5) (T := TX5) (N := 21) hx hb hts hinX5 hown hK hW (kc_9 g ad (set_m_l t 0)) rfl 6 (by decide) (hts (.fieldLink RX5 22 "DrillVaultModel" "sizes" "[I") (by decide +kernel)) rfl (v := .ref (ad 14 0)) rfl dX5_keeps_15 ?_
  refine lv_iload_n hx hb dX5_keeps_18 rfl (lv_at hl 1 rfl) ?_
  refine k_iald hx hb hK hW (kc_14 g ad (set_m_l t 0)) j rfl (by have := hmt _ hs; omega) (by decide) dX5_keeps_19 ?_
  refine k_tov (y := .int (nI (m_sz t j))) rfl ?_
  refine lv_goto (tgt := 24) hx hb dX5_keeps_20 (by decide) ?_
  exact k_ri hQ hx hb hr hlk hS hW ⟨rfl, rfl⟩ (Nat.le_of_ble_eq_true rfl) (Nat.le_of_ble_eq_true rfl) dX5_keeps_24
abbrev rm_X5_isPromised : Room := { frames := 2, cells := 0, slots := 0, locals := 48 }
set_option maxRecDepth 100000 in
set_option maxHeartbeats 4000000 in
theorem c_X5_isPromised_b (l : Launch) (hlt : l.stackTraces = false) (g : k_g) (ad : k_AD) (t : k_T) (z : Int32) (hz : z < 0 ∨ nI 60 ≤ z ∨ ∃ j, j < 60 ∧ z = nI j ∧ m_th t j = false) (hm60 : m_md t ≤ 60) (hmb : ∀ k b, k < m_md t → m_b t k = some b → b < k) (hmo : ∀ j, j < m_md t → m_on t j ≤ 360) (hr1 : m_r1 t ≤ 30) (hr2 : m_r2 t ≤ 30) (hr3 : m_r3 t ≤ 30) : Met l yX5_isPromised wsX5_isPromised rm_X5_isPromised (va_Pc [.ref (ad 9 0), .int z] (k_I g (k_ct g ad t) ad)) (va_Qi (fun r u => r = nI 0 ∧ u = set_m_l (set_m_nd (set_m_pm t (k_PmM (m_md t) (m_th t) (m_pm t) (m_on t) (m_r1 t) (m_r2 t) (m_r3 t))) (k_NmM (m_md t) (m_nd t) (k_PmM (m_md t) (m_th t) (m_pm t) (m_on t) (m_r1 t) (m_r2 t) (m_r3 t)) (m_b t))) 1) (fun u U => k_H g ad u U.heap) (k_A g)) 0 0 (k_A g) := by
  refine k_met (cc := cX5_isPromised) (maxL := 2) (ret := (some .boolean)) (by decide) rfl (Nat.le_of_ble_eq_true rfl) (fun p e s m args below meth c Q ls hQ hx hb hr hml hts hown hlk hin hK hZ hN hW hS hl => ?_)
  have hown : s.vm.findClass RX5 = some m.cls := hown
  have hW : k_H g ad t s.heap := hW
  have hl : lv_has ls 2 [(0, .ref (ad 9 0)), (1, .int z)] := hl
  refine lv_aload_n hx hb dX5_isPromised_0 rfl (lv_at hl 0 rfl) ?_
  refine k_ci (va_runV (As := []) (rest := []) ⟨hx, hb, hml, hown, hts⟩ (c_X5_marks l hlt g ad t hm60 hmb hmo hr1 hr2 hr3) (cwV 0 hts gX5_isPromised_X5_marks rfl rfl rfl (by decide +kernel) ⟨(Nat.le_of_ble_eq_true rfl), (Nat.le_of_ble_eq_true rfl)⟩) ⟨k_blind, k_recv hK hW (kc_9 g ad t) rfl, fun U hU hw => ⟨rfl, k_I.of hK hZ hN hS hW hU hw⟩⟩ rfl rfl hl.1 rfl (lv_room (Nat.le_of_ble_eq_true rfl)) dX5_isPromised_1 ⟨(Nat.le_of_ble_eq_true rfl), (Nat.le_of_ble_eq_true rfl)⟩) hS (fun r u H locs hpo hW hS => ?_)
  obtain ⟨hr9, hu9⟩ := hpo; replace hu9 := hu9.symm; subst hu9; replace hr9 := hr9.symm; subst hr9
  have hW : k_H g ad (set_m_nd (set_m_pm t (k_PmM (m_md t) (m_th t) (m_pm t) (m_on t) (m_r1 t) (m_r2 t) (m_r3 t))) (k_NmM (m_md t) (m_nd t) (k_PmM (m_md t) (m_th t) (m_pm t) (m_on t) (m_r1 t) (m_r2 t) (m_r3 t)) (m_b t))) H := hW
  refine lv_pop hx hb dX5_isPromised_4 rfl ?_
  refine lv_aload_n hx hb dX5_isPromised_5 rfl (lv_at hl 0 rfl) ?_
  refine lv_aload_n hx hb dX5_isPromised_6 rfl (lv_at hl 0 rfl) ?_
  refine lv_iload_n hx hb dX5_isPromised_7 rfl (lv_at hl 1 rfl) ?_
  refine k_ci (va_runV (As := [.int z]) (rest := [.ref (ad 9 0)]) ⟨hx, hb, hml, hown, hts⟩ (c_X5_isCopy_b l hlt g ad (set_m_nd (set_m_pm t (k_PmM (m_md t) (m_th t) (m_pm t) (m_on t) (m_r1 t) (m_r2 t) (m_r3 t))) (k_NmM (m_md t) (m_nd t) (k_PmM (m_md t) (m_th t) (m_pm t) (m_on t) (m_r1 t) (m_r2 t) (m_r3 t)) (m_b t))) z hz hm60) (cwV 1 hts gX5_isPromised_X5_isCopy rfl rfl rfl (by decide +kernel) ⟨(Nat.le_of_ble_eq_true rfl), (Nat.le_of_ble_eq_true rfl)⟩) ⟨k_blind, k_recv hK hW (kc_9 g ad (set_m_nd (set_m_pm t (k_PmM (m_md t) (m_th t) (m_pm t) (m_on t) (m_r1 t) (m_r2 t) (m_r3 t))) (k_NmM (m_md t) (m_nd t) (k_PmM (m_md t) (m_th t) (m_pm t) (m_on t) (m_r1 t) (m_r2 t) (m_r3 t)) (m_b t)))) rfl, fun U hU hw => ⟨rfl, k_I.of hK hZ hN hS hW hU hw⟩⟩ rfl rfl hl.1 rfl (lv_room (Nat.le_of_ble_eq_true rfl)) dX5_isPromised_8 ⟨(Nat.le_of_ble_eq_true rfl), (Nat.le_of_ble_eq_true rfl)⟩) hS (fun r u H locs hpo hW hS => ?_)
  obtain ⟨hr9, hu9⟩ := hpo; replace hu9 := hu9.symm; subst hu9; replace hr9 := hr9.symm; subst hr9
  refine lv_iconst (v := nI 1) hx hb dX5_isPromised_11 (by decide) ?_
  refine lv_iconst (v := nI 1) hx hb dX5_isPromised_12 (by decide) ?_
  refine k_ci (va_runV (As := [.int (nI 0), .int (nI 1), .int (nI 1)]) (rest := []) ⟨hx, hb, hml, hown, hts⟩ (c_X5_goes_1 l hlt g ad (set_m_nd (set_m_pm t (k_PmM (m_md t) (m_th t) (m_pm t) (m_on t) (m_r1 t) (m_r2 t) (m_r3 t))) (k_NmM (m_md t) (m_nd t) (k_PmM (m_md t) (m_th t) (m_pm t) (m_on t) (m_r1 t) (m_r2 t) (m_r3 t)) (m_b t))) (nI 1) (nI 1) ) (cwV 3 hts gX5_isPromised_X5_goes rfl rfl rfl (by decide +kernel) ⟨(Nat.le_of_ble_eq_true rfl), (Nat.le_of_ble_eq_true rfl)⟩) ⟨k_blind, k_recv hK hW (kc_9 g ad (set_m_nd (set_m_pm t (k_PmM (m_md t) (m_th t) (m_pm t) (m_on t) (m_r1 t) (m_r2 t) (m_r3 t))) (k_NmM (m_md t) (m_nd t) (k_PmM (m_md t) (m_th t) (m_pm t) (m_on t) (m_r1 t) (m_r2 t) (m_r3 t)) (m_b t)))) rfl, fun U hU hw => ⟨rfl, k_I.of hK hZ hN hS hW hU hw⟩⟩ rfl rfl hl.1 rfl (lv_room (Nat.le_of_ble_eq_true rfl)) dX5_isPromised_13 ⟨(Nat.le_of_ble_eq_true rfl), (Nat.le_of_ble_eq_true rfl)⟩) hS (fun r u H locs hpo hW hS => ?_)
  obtain ⟨hr9, hu9⟩ := hpo; replace hu9 := hu9.symm; subst hu9; replace hr9 := hr9.symm; subst hr9
  have hW : k_H g ad (set_m_l (set_m_nd (set_m_pm t (k_PmM (m_md t) (m_th t) (m_pm t) (m_on t) (m_r1 t) (m_r2 t) (m_r3 t))) (k_NmM (m_md t) (m_nd t) (k_PmM (m_md t) (m_th t) (m_pm t) (m_on t) (m_r1 t) (m_r2 t) (m_r3 t)) (m_b t))) 1) H := hW
  refine lv_if_eq (tgt := 32) hx hb dX5_isPromised_16 (by decide) (fun h_16 => ?_) (fun h_16 => absurd h_16 (by decide))
  refine lv_iconst (v := nI 0) hx hb dX5_isPromised_32 (by decide) ?_
  exact k_rz hQ hx hb hr rfl hlk hS hW ⟨rfl, rfl⟩ (Nat.le_of_ble_eq_true rfl) (Nat.le_of_ble_eq_true rfl) dX5_isPromised_33
set_option maxRecDepth 100000 in
set_option maxHeartbeats 4000000 in
theorem c_X5_isPromised_ok (l : Launch) (hlt : l.stackTraces = false) (g : k_g) (ad : k_AD) (t : k_T) (j : Nat) (hj : j < 60) (hs : m_th t j = true) (hmt : ∀ j, m_th t j = true → j < m_md t) (hm60 : m_md t ≤ 60) (hmb : ∀ k b, k < m_md t → m_b t k = some b → b < k) (hmo : ∀ j, j < m_md t → m_on t j ≤ 360) (hr1 : m_r1 t ≤ 30) (hr2 : m_r2 t ≤ 30) (hr3 : m_r3 t ≤ 30) : Met l yX5_isPromised wsX5_isPromised rm_X5_isPromised (va_Pc [.ref (ad 9 0), .int (nI j)] (k_I g (k_ct g ad t) ad)) (va_Qi (fun r u => r = kb ((k_PmM (m_md t) (m_th t) (m_pm t) (m_on t) (m_r1 t) (m_r2 t) (m_r3 t)) j) ∧ u = set_m_l (set_m_nd (set_m_pm t (k_PmM (m_md t) (m_th t) (m_pm t) (m_on t) (m_r1 t) (m_r2 t) (m_r3 t))) (k_NmM (m_md t) (m_nd t) (k_PmM (m_md t) (m_th t) (m_pm t) (m_on t) (m_r1 t) (m_r2 t) (m_r3 t)) (m_b t))) 0) (fun u U => k_H g ad u U.heap) (k_A g)) 0 0 (k_A g) := by
  refine k_met (cc := cX5_isPromised) (maxL := 2) (ret := (some .boolean)) (by decide) rfl (Nat.le_of_ble_eq_true rfl) (fun p e s m args below meth c Q ls hQ hx hb hr hml hts hown hlk hin hK hZ hN hW hS hl => ?_)
  have hown : s.vm.findClass RX5 = some m.cls := hown
  have hW : k_H g ad t s.heap := hW
  have hl : lv_has ls 2 [(0, .ref (ad 9 0)), (1, .int (nI j))] := hl
  have hinX5 : ∀ w ∈ wsX50, w ∈ wsX5_isPromised := by decide +kernel
  refine lv_aload_n hx hb dX5_isPromised_0 rfl (lv_at hl 0 rfl) ?_
  refine k_ci (va_runV (As := []) (rest := []) ⟨hx, hb, hml, hown, hts⟩ (c_X5_marks l hlt g ad t hm60 hmb hmo hr1 hr2 hr3) (cwV 0 hts gX5_isPromised_X5_marks rfl rfl rfl (by decide +kernel) ⟨(Nat.le_of_ble_eq_true rfl), (Nat.le_of_ble_eq_true rfl)⟩) ⟨k_blind, k_recv hK hW (kc_9 g ad t) rfl, fun U hU hw => ⟨rfl, k_I.of hK hZ hN hS hW hU hw⟩⟩ rfl rfl hl.1 rfl (lv_room (Nat.le_of_ble_eq_true rfl)) dX5_isPromised_1 ⟨(Nat.le_of_ble_eq_true rfl), (Nat.le_of_ble_eq_true rfl)⟩) hS (fun r u H locs hpo hW hS => ?_)
  obtain ⟨hr9, hu9⟩ := hpo; replace hu9 := hu9.symm; subst hu9; replace hr9 := hr9.symm; subst hr9
  have hW : k_H g ad (set_m_nd (set_m_pm t (k_PmM (m_md t) (m_th t) (m_pm t) (m_on t) (m_r1 t) (m_r2 t) (m_r3 t))) (k_NmM (m_md t) (m_nd t) (k_PmM (m_md t) (m_th t) (m_pm t) (m_on t) (m_r1 t) (m_r2 t) (m_r3 t)) (m_b t))) H := hW
  refine lv_pop hx hb dX5_isPromised_4 rfl ?_
  refine lv_aload_n hx hb dX5_isPromised_5 rfl (lv_at hl 0 rfl) ?_
  refine lv_aload_n hx hb dX5_isPromised_6 rfl (lv_at hl 0 rfl) ?_
  refine lv_iload_n hx hb dX5_isPromised_7 rfl (lv_at hl 1 rfl) ?_
  refine k_ci (va_runV (As := [.int (nI j)]) (rest := [.ref (ad 9 0)]) ⟨hx, hb, hml, hown, hts⟩ (c_X5_isCopy l hlt g ad (set_m_nd (set_m_pm t (k_PmM (m_md t) (m_th t) (m_pm t) (m_on t) (m_r1 t) (m_r2 t) (m_r3 t))) (k_NmM (m_md t) (m_nd t) (k_PmM (m_md t) (m_th t) (m_pm t) (m_on t) (m_r1 t) (m_r2 t) (m_r3 t)) (m_b t))) j hs hmt hm60) (cwV 1 hts gX5_isPromised_X5_isCopy rfl rfl rfl (by decide +kernel) ⟨(Nat.le_of_ble_eq_true rfl), (Nat.le_of_ble_eq_true rfl)⟩) ⟨k_blind, k_recv hK hW (kc_9 g ad (set_m_nd (set_m_pm t (k_PmM (m_md t) (m_th t) (m_pm t) (m_on t) (m_r1 t) (m_r2 t) (m_r3 t))) (k_NmM (m_md t) (m_nd t) (k_PmM (m_md t) (m_th t) (m_pm t) (m_on t) (m_r1 t) (m_r2 t) (m_r3 t)) (m_b t)))) rfl, fun U hU hw => ⟨rfl, k_I.of hK hZ hN hS hW hU hw⟩⟩ rfl rfl hl.1 rfl (lv_room (Nat.le_of_ble_eq_true rfl)) dX5_isPromised_8 ⟨(Nat.le_of_ble_eq_true rfl), (Nat.le_of_ble_eq_true rfl)⟩) hS (fun r u H locs hpo hW hS => ?_)
  obtain ⟨hr9, hu9⟩ := hpo; replace hu9 := hu9.symm; subst hu9; replace hr9 := hr9.symm; subst hr9
  refine lv_iconst (v := nI 1) hx hb dX5_isPromised_11 (by decide) ?_
  refine lv_iconst (v := nI 1) hx hb dX5_isPromised_12 (by decide) ?_
  refine k_ci (va_runV (As := [.int (nI 1), .int (nI 1), .int (nI 1)]) (rest := []) ⟨hx, hb, hml, hown, hts⟩ (c_X5_goes_0 l hlt g ad (set_m_nd (set_m_pm t (k_PmM (m_md t) (m_th t) (m_pm t) (m_on t) (m_r1 t) (m_r2 t) (m_r3 t))) (k_NmM (m_md t) (m_nd t) (k_PmM (m_md t) (m_th t) (m_pm t) (m_on t) (m_r1 t) (m_r2 t) (m_r3 t)) (m_b t))) ) (cwV 3 hts gX5_isPromised_X5_goes rfl rfl rfl (by decide +kernel) ⟨(Nat.le_of_ble_eq_true rfl), (Nat.le_of_ble_eq_true rfl)⟩) ⟨k_blind, k_recv hK hW (kc_9 g ad (set_m_nd (set_m_pm t (k_PmM (m_md t) (m_th t) (m_pm t) (m_on t) (m_r1 t) (m_r2 t) (m_r3 t))) (k_NmM (m_md t) (m_nd t) (k_PmM (m_md t) (m_th t) (m_pm t) (m_on t) (m_r1 t) (m_r2 t) (m_r3 t)) (m_b t)))) rfl, fun U hU hw => ⟨rfl, k_I.of hK hZ hN hS hW hU hw⟩⟩ rfl rfl hl.1 rfl (lv_room (Nat.le_of_ble_eq_true rfl)) dX5_isPromised_13 ⟨(Nat.le_of_ble_eq_true rfl), (Nat.le_of_ble_eq_true rfl)⟩) hS (fun r u H locs hpo hW hS => ?_)
  obtain ⟨hr9, hu9⟩ := hpo; replace hu9 := hu9.symm; subst hu9; replace hr9 := hr9.symm; subst hr9
  have hW : k_H g ad (set_m_l (set_m_nd (set_m_pm t (k_PmM (m_md t) (m_th t) (m_pm t) (m_on t) (m_r1 t) (m_r2 t) (m_r3 t))) (k_NmM (m_md t) (m_nd t) (k_PmM (m_md t) (m_th t) (m_pm t) (m_on t) (m_r1 t) (m_r2 t) (m_r3 t)) (m_b t))) 0) H := hW
  refine lv_if_eq (tgt := 32) hx hb dX5_isPromised_16 (by decide) (fun h_16 => absurd h_16 (by decide)) (fun h_16 => ?_)
  refine lv_aload_n hx hb dX5_isPromised_19 rfl (lv_at hl 0 rfl) ?_
  refine k_get (own := RX5) (C := RX5) (T := TX5) (N := 21) hx hb hts hinX5 hown hK hW (kc_9 g ad (set_m_l (set_m_nd (set_m_pm t (k_PmM (m_md t) (m_th t) (m_pm t) (m_on t) (m_r1 t) (m_r2 t) (m_r3 t))) (k_NmM (m_md t) (m_nd t) (k_PmM (m_md t) (m_th t) (m_pm t) (m_on t) (m_r1 t) (m_r2 t) (m_r3 t)) (m_b t))) 0)) rfl 16 (by decide) (hts (.fieldLink RX5 51 "DrillVaultModel" "promised" "[Z") (by decide +kernel)) rfl (v := .ref (ad 20 0)) rfl dX5_isPromised_20 ?_
  refine lv_iload_n hx hb dX5_isPromised_23 rfl (lv_at hl 1 rfl) ?_
  refine k_zald hx hb hK hW (kc_20 g ad (set_m_l (set_m_nd (set_m_pm t (k_PmM (m_md t) (m_th t) (m_pm t) (m_on t) (m_r1 t) (m_r2 t) (m_r3 t))) (k_NmM (m_md t) (m_nd t) (k_PmM (m_md t) (m_th t) (m_pm t) (m_on t) (m_r1 t) (m_r2 t) (m_r3 t)) (m_b t))) 0)) j rfl (by have := hmt _ hs; omega) (by decide) dX5_isPromised_24 ?_
  refine k_tov (y := .int (kb ((k_PmM (m_md t) (m_th t) (m_pm t) (m_on t) (m_r1 t) (m_r2 t) (m_r3 t)) j))) rfl ?_
  refine k_ifz_eq (tgt := 32) hx hb dX5_isPromised_25 (by decide) (fun h_25 => ?_) (fun h_25 => ?_)
  · refine lv_iconst (v := nI 0) hx hb dX5_isPromised_32 (by decide) ?_
    exact k_rz hQ hx hb hr rfl hlk hS hW ⟨by rw [h_25]; rfl, rfl⟩ (Nat.le_of_ble_eq_true rfl) (Nat.le_of_ble_eq_true rfl) dX5_isPromised_33
  · refine lv_iconst (v := nI 1) hx hb dX5_isPromised_28 (by decide) ?_
    refine lv_goto (tgt := 33) hx hb dX5_isPromised_29 (by decide) ?_
    exact k_rz hQ hx hb hr rfl hlk hS hW ⟨by rw [h_25]; rfl, rfl⟩ (Nat.le_of_ble_eq_true rfl) (Nat.le_of_ble_eq_true rfl) dX5_isPromised_33
abbrev rm_X5_isNeeded : Room := { frames := 2, cells := 0, slots := 0, locals := 48 }
set_option maxRecDepth 100000 in
set_option maxHeartbeats 4000000 in
theorem c_X5_isNeeded_b (l : Launch) (hlt : l.stackTraces = false) (g : k_g) (ad : k_AD) (t : k_T) (z : Int32) (hz : z < 0 ∨ nI 60 ≤ z ∨ ∃ j, j < 60 ∧ z = nI j ∧ m_th t j = false) (hm60 : m_md t ≤ 60) (hmb : ∀ k b, k < m_md t → m_b t k = some b → b < k) (hmo : ∀ j, j < m_md t → m_on t j ≤ 360) (hr1 : m_r1 t ≤ 30) (hr2 : m_r2 t ≤ 30) (hr3 : m_r3 t ≤ 30) : Met l yX5_isNeeded wsX5_isNeeded rm_X5_isNeeded (va_Pc [.ref (ad 9 0), .int z] (k_I g (k_ct g ad t) ad)) (va_Qi (fun r u => r = nI 0 ∧ u = set_m_l (set_m_nd (set_m_pm t (k_PmM (m_md t) (m_th t) (m_pm t) (m_on t) (m_r1 t) (m_r2 t) (m_r3 t))) (k_NmM (m_md t) (m_nd t) (k_PmM (m_md t) (m_th t) (m_pm t) (m_on t) (m_r1 t) (m_r2 t) (m_r3 t)) (m_b t))) 1) (fun u U => k_H g ad u U.heap) (k_A g)) 0 0 (k_A g) := by
  refine k_met (cc := cX5_isNeeded) (maxL := 2) (ret := (some .boolean)) (by decide) rfl (Nat.le_of_ble_eq_true rfl) (fun p e s m args below meth c Q ls hQ hx hb hr hml hts hown hlk hin hK hZ hN hW hS hl => ?_)
  have hown : s.vm.findClass RX5 = some m.cls := hown
  have hW : k_H g ad t s.heap := hW
  have hl : lv_has ls 2 [(0, .ref (ad 9 0)), (1, .int z)] := hl
  refine lv_aload_n hx hb dX5_isNeeded_0 rfl (lv_at hl 0 rfl) ?_
  refine k_ci (va_runV (As := []) (rest := []) ⟨hx, hb, hml, hown, hts⟩ (c_X5_marks l hlt g ad t hm60 hmb hmo hr1 hr2 hr3) (cwV 0 hts gX5_isNeeded_X5_marks rfl rfl rfl (by decide +kernel) ⟨(Nat.le_of_ble_eq_true rfl), (Nat.le_of_ble_eq_true rfl)⟩) ⟨k_blind, k_recv hK hW (kc_9 g ad t) rfl, fun U hU hw => ⟨rfl, k_I.of hK hZ hN hS hW hU hw⟩⟩ rfl rfl hl.1 rfl (lv_room (Nat.le_of_ble_eq_true rfl)) dX5_isNeeded_1 ⟨(Nat.le_of_ble_eq_true rfl), (Nat.le_of_ble_eq_true rfl)⟩) hS (fun r u H locs hpo hW hS => ?_)
  obtain ⟨hr9, hu9⟩ := hpo; replace hu9 := hu9.symm; subst hu9; replace hr9 := hr9.symm; subst hr9
  have hW : k_H g ad (set_m_nd (set_m_pm t (k_PmM (m_md t) (m_th t) (m_pm t) (m_on t) (m_r1 t) (m_r2 t) (m_r3 t))) (k_NmM (m_md t) (m_nd t) (k_PmM (m_md t) (m_th t) (m_pm t) (m_on t) (m_r1 t) (m_r2 t) (m_r3 t)) (m_b t))) H := hW
  refine lv_pop hx hb dX5_isNeeded_4 rfl ?_
  refine lv_aload_n hx hb dX5_isNeeded_5 rfl (lv_at hl 0 rfl) ?_
  refine lv_aload_n hx hb dX5_isNeeded_6 rfl (lv_at hl 0 rfl) ?_
  refine lv_iload_n hx hb dX5_isNeeded_7 rfl (lv_at hl 1 rfl) ?_
  refine k_ci (va_runV (As := [.int z]) (rest := [.ref (ad 9 0)]) ⟨hx, hb, hml, hown, hts⟩ (c_X5_isCopy_b l hlt g ad (set_m_nd (set_m_pm t (k_PmM (m_md t) (m_th t) (m_pm t) (m_on t) (m_r1 t) (m_r2 t) (m_r3 t))) (k_NmM (m_md t) (m_nd t) (k_PmM (m_md t) (m_th t) (m_pm t) (m_on t) (m_r1 t) (m_r2 t) (m_r3 t)) (m_b t))) z hz hm60) (cwV 1 hts gX5_isNeeded_X5_isCopy rfl rfl rfl (by decide +kernel) ⟨(Nat.le_of_ble_eq_true rfl), (Nat.le_of_ble_eq_true rfl)⟩) ⟨k_blind, k_recv hK hW (kc_9 g ad (set_m_nd (set_m_pm t (k_PmM (m_md t) (m_th t) (m_pm t) (m_on t) (m_r1 t) (m_r2 t) (m_r3 t))) (k_NmM (m_md t) (m_nd t) (k_PmM (m_md t) (m_th t) (m_pm t) (m_on t) (m_r1 t) (m_r2 t) (m_r3 t)) (m_b t)))) rfl, fun U hU hw => ⟨rfl, k_I.of hK hZ hN hS hW hU hw⟩⟩ rfl rfl hl.1 rfl (lv_room (Nat.le_of_ble_eq_true rfl)) dX5_isNeeded_8 ⟨(Nat.le_of_ble_eq_true rfl), (Nat.le_of_ble_eq_true rfl)⟩) hS (fun r u H locs hpo hW hS => ?_)
  obtain ⟨hr9, hu9⟩ := hpo; replace hu9 := hu9.symm; subst hu9; replace hr9 := hr9.symm; subst hr9
  refine lv_iconst (v := nI 1) hx hb dX5_isNeeded_11 (by decide) ?_
  refine lv_iconst (v := nI 1) hx hb dX5_isNeeded_12 (by decide) ?_
  refine k_ci (va_runV (As := [.int (nI 0), .int (nI 1), .int (nI 1)]) (rest := []) ⟨hx, hb, hml, hown, hts⟩ (c_X5_goes_1 l hlt g ad (set_m_nd (set_m_pm t (k_PmM (m_md t) (m_th t) (m_pm t) (m_on t) (m_r1 t) (m_r2 t) (m_r3 t))) (k_NmM (m_md t) (m_nd t) (k_PmM (m_md t) (m_th t) (m_pm t) (m_on t) (m_r1 t) (m_r2 t) (m_r3 t)) (m_b t))) (nI 1) (nI 1) ) (cwV 3 hts gX5_isNeeded_X5_goes rfl rfl rfl (by decide +kernel) ⟨(Nat.le_of_ble_eq_true rfl), (Nat.le_of_ble_eq_true rfl)⟩) ⟨k_blind, k_recv hK hW (kc_9 g ad (set_m_nd (set_m_pm t (k_PmM (m_md t) (m_th t) (m_pm t) (m_on t) (m_r1 t) (m_r2 t) (m_r3 t))) (k_NmM (m_md t) (m_nd t) (k_PmM (m_md t) (m_th t) (m_pm t) (m_on t) (m_r1 t) (m_r2 t) (m_r3 t)) (m_b t)))) rfl, fun U hU hw => ⟨rfl, k_I.of hK hZ hN hS hW hU hw⟩⟩ rfl rfl hl.1 rfl (lv_room (Nat.le_of_ble_eq_true rfl)) dX5_isNeeded_13 ⟨(Nat.le_of_ble_eq_true rfl), (Nat.le_of_ble_eq_true rfl)⟩) hS (fun r u H locs hpo hW hS => ?_)
  obtain ⟨hr9, hu9⟩ := hpo; replace hu9 := hu9.symm; subst hu9; replace hr9 := hr9.symm; subst hr9
  have hW : k_H g ad (set_m_l (set_m_nd (set_m_pm t (k_PmM (m_md t) (m_th t) (m_pm t) (m_on t) (m_r1 t) (m_r2 t) (m_r3 t))) (k_NmM (m_md t) (m_nd t) (k_PmM (m_md t) (m_th t) (m_pm t) (m_on t) (m_r1 t) (m_r2 t) (m_r3 t)) (m_b t))) 1) H := hW
  refine lv_if_eq (tgt := 32) hx hb dX5_isNeeded_16 (by decide) (fun h_16 => ?_) (fun h_16 => absurd h_16 (by decide))
  refine lv_iconst (v := nI 0) hx hb dX5_isNeeded_32 (by decide) ?_
  exact k_rz hQ hx hb hr rfl hlk hS hW ⟨rfl, rfl⟩ (Nat.le_of_ble_eq_true rfl) (Nat.le_of_ble_eq_true rfl) dX5_isNeeded_33
set_option maxRecDepth 100000 in
set_option maxHeartbeats 4000000 in
theorem c_X5_isNeeded_ok (l : Launch) (hlt : l.stackTraces = false) (g : k_g) (ad : k_AD) (t : k_T) (j : Nat) (hj : j < 60) (hs : m_th t j = true) (hmt : ∀ j, m_th t j = true → j < m_md t) (hm60 : m_md t ≤ 60) (hmb : ∀ k b, k < m_md t → m_b t k = some b → b < k) (hmo : ∀ j, j < m_md t → m_on t j ≤ 360) (hr1 : m_r1 t ≤ 30) (hr2 : m_r2 t ≤ 30) (hr3 : m_r3 t ≤ 30) : Met l yX5_isNeeded wsX5_isNeeded rm_X5_isNeeded (va_Pc [.ref (ad 9 0), .int (nI j)] (k_I g (k_ct g ad t) ad)) (va_Qi (fun r u => r = kb ((k_NmM (m_md t) (m_nd t) (k_PmM (m_md t) (m_th t) (m_pm t) (m_on t) (m_r1 t) (m_r2 t) (m_r3 t)) (m_b t)) j) ∧ u = set_m_l (set_m_nd (set_m_pm t (k_PmM (m_md t) (m_th t) (m_pm t) (m_on t) (m_r1 t) (m_r2 t) (m_r3 t))) (k_NmM (m_md t) (m_nd t) (k_PmM (m_md t) (m_th t) (m_pm t) (m_on t) (m_r1 t) (m_r2 t) (m_r3 t)) (m_b t))) 0) (fun u U => k_H g ad u U.heap) (k_A g)) 0 0 (k_A g) := by
  refine k_met (cc := cX5_isNeeded) (maxL := 2) (ret := (some .boolean)) (by decide) rfl (Nat.le_of_ble_eq_true rfl) (fun p e s m args below meth c Q ls hQ hx hb hr hml hts hown hlk hin hK hZ hN hW hS hl => ?_)
  have hown : s.vm.findClass RX5 = some m.cls := hown
  have hW : k_H g ad t s.heap := hW
  have hl : lv_has ls 2 [(0, .ref (ad 9 0)), (1, .int (nI j))] := hl
  have hinX5 : ∀ w ∈ wsX50, w ∈ wsX5_isNeeded := by decide +kernel
  refine lv_aload_n hx hb dX5_isNeeded_0 rfl (lv_at hl 0 rfl) ?_
  refine k_ci (va_runV (As := []) (rest := []) ⟨hx, hb, hml, hown, hts⟩ (c_X5_marks l hlt g ad t hm60 hmb hmo hr1 hr2 hr3) (cwV 0 hts gX5_isNeeded_X5_marks rfl rfl rfl (by decide +kernel) ⟨(Nat.le_of_ble_eq_true rfl), (Nat.le_of_ble_eq_true rfl)⟩) ⟨k_blind, k_recv hK hW (kc_9 g ad t) rfl, fun U hU hw => ⟨rfl, k_I.of hK hZ hN hS hW hU hw⟩⟩ rfl rfl hl.1 rfl (lv_room (Nat.le_of_ble_eq_true rfl)) dX5_isNeeded_1 ⟨(Nat.le_of_ble_eq_true rfl), (Nat.le_of_ble_eq_true rfl)⟩) hS (fun r u H locs hpo hW hS => ?_)
  obtain ⟨hr9, hu9⟩ := hpo; replace hu9 := hu9.symm; subst hu9; replace hr9 := hr9.symm; subst hr9
  have hW : k_H g ad (set_m_nd (set_m_pm t (k_PmM (m_md t) (m_th t) (m_pm t) (m_on t) (m_r1 t) (m_r2 t) (m_r3 t))) (k_NmM (m_md t) (m_nd t) (k_PmM (m_md t) (m_th t) (m_pm t) (m_on t) (m_r1 t) (m_r2 t) (m_r3 t)) (m_b t))) H := hW
  refine lv_pop hx hb dX5_isNeeded_4 rfl ?_
  refine lv_aload_n hx hb dX5_isNeeded_5 rfl (lv_at hl 0 rfl) ?_
  refine lv_aload_n hx hb dX5_isNeeded_6 rfl (lv_at hl 0 rfl) ?_
  refine lv_iload_n hx hb dX5_isNeeded_7 rfl (lv_at hl 1 rfl) ?_
  refine k_ci (va_runV (As := [.int (nI j)]) (rest := [.ref (ad 9 0)]) ⟨hx, hb, hml, hown, hts⟩ (c_X5_isCopy l hlt g ad (set_m_nd (set_m_pm t (k_PmM (m_md t) (m_th t) (m_pm t) (m_on t) (m_r1 t) (m_r2 t) (m_r3 t))) (k_NmM (m_md t) (m_nd t) (k_PmM (m_md t) (m_th t) (m_pm t) (m_on t) (m_r1 t) (m_r2 t) (m_r3 t)) (m_b t))) j hs hmt hm60) (cwV 1 hts gX5_isNeeded_X5_isCopy rfl rfl rfl (by decide +kernel) ⟨(Nat.le_of_ble_eq_true rfl), (Nat.le_of_ble_eq_true rfl)⟩) ⟨k_blind, k_recv hK hW (kc_9 g ad (set_m_nd (set_m_pm t (k_PmM (m_md t) (m_th t) (m_pm t) (m_on t) (m_r1 t) (m_r2 t) (m_r3 t))) (k_NmM (m_md t) (m_nd t) (k_PmM (m_md t) (m_th t) (m_pm t) (m_on t) (m_r1 t) (m_r2 t) (m_r3 t)) (m_b t)))) rfl, fun U hU hw => ⟨rfl, k_I.of hK hZ hN hS hW hU hw⟩⟩ rfl rfl hl.1 rfl (lv_room (Nat.le_of_ble_eq_true rfl)) dX5_isNeeded_8 ⟨(Nat.le_of_ble_eq_true rfl), (Nat.le_of_ble_eq_true rfl)⟩) hS (fun r u H locs hpo hW hS => ?_)
  obtain ⟨hr9, hu9⟩ := hpo; replace hu9 := hu9.symm; subst hu9; replace hr9 := hr9.symm; subst hr9
  refine lv_iconst (v := nI 1) hx hb dX5_isNeeded_11 (by decide) ?_
  refine lv_iconst (v := nI 1) hx hb dX5_isNeeded_12 (by decide) ?_
  refine k_ci (va_runV (As := [.int (nI 1), .int (nI 1), .int (nI 1)]) (rest := []) ⟨hx, hb, hml, hown, hts⟩ (c_X5_goes_0 l hlt g ad (set_m_nd (set_m_pm t (k_PmM (m_md t) (m_th t) (m_pm t) (m_on t) (m_r1 t) (m_r2 t) (m_r3 t))) (k_NmM (m_md t) (m_nd t) (k_PmM (m_md t) (m_th t) (m_pm t) (m_on t) (m_r1 t) (m_r2 t) (m_r3 t)) (m_b t))) ) (cwV 3 hts gX5_isNeeded_X5_goes rfl rfl rfl (by decide +kernel) ⟨(Nat.le_of_ble_eq_true rfl), (Nat.le_of_ble_eq_true rfl)⟩) ⟨k_blind, k_recv hK hW (kc_9 g ad (set_m_nd (set_m_pm t (k_PmM (m_md t) (m_th t) (m_pm t) (m_on t) (m_r1 t) (m_r2 t) (m_r3 t))) (k_NmM (m_md t) (m_nd t) (k_PmM (m_md t) (m_th t) (m_pm t) (m_on t) (m_r1 t) (m_r2 t) (m_r3 t)) (m_b t)))) rfl, fun U hU hw => ⟨rfl, k_I.of hK hZ hN hS hW hU hw⟩⟩ rfl rfl hl.1 rfl (lv_room (Nat.le_of_ble_eq_true rfl)) dX5_isNeeded_13 ⟨(Nat.le_of_ble_eq_true rfl), (Nat.le_of_ble_eq_true rfl)⟩) hS (fun r u H locs hpo hW hS => ?_)
  obtain ⟨hr9, hu9⟩ := hpo; replace hu9 := hu9.symm; subst hu9; replace hr9 := hr9.symm; subst hr9
  have hW : k_H g ad (set_m_l (set_m_nd (set_m_pm t (k_PmM (m_md t) (m_th t) (m_pm t) (m_on t) (m_r1 t) (m_r2 t) (m_r3 t))) (k_NmM (m_md t) (m_nd t) (k_PmM (m_md t) (m_th t) (m_pm t) (m_on t) (m_r1 t) (m_r2 t) (m_r3 t)) (m_b t))) 0) H := hW
  refine lv_if_eq (tgt := 32) hx hb dX5_isNeeded_16 (by decide) (fun h_16 => absurd h_16 (by decide)) (fun h_16 => ?_)
  refine lv_aload_n hx hb dX5_isNeeded_19 rfl (lv_at hl 0 rfl) ?_
  refine k_get (own := RX5) (C := RX5) (T := TX5) (N := 21) hx hb hts hinX5 hown hK hW (kc_9 g ad (set_m_l (set_m_nd (set_m_pm t (k_PmM (m_md t) (m_th t) (m_pm t) (m_on t) (m_r1 t) (m_r2 t) (m_r3 t))) (k_NmM (m_md t) (m_nd t) (k_PmM (m_md t) (m_th t) (m_pm t) (m_on t) (m_r1 t) (m_r2 t) (m_r3 t)) (m_b t))) 0)) rfl 17 (by decide) (hts (.fieldLink RX5 54 "DrillVaultModel" "needed" "[Z") (by decide +kernel)) rfl (v := .ref (ad 21 0)) rfl dX5_isNeeded_20 ?_
  refine lv_iload_n hx hb dX5_isNeeded_23 rfl (lv_at hl 1 rfl) ?_
  refine k_zald hx hb hK hW (kc_21 g ad (set_m_l (set_m_nd (set_m_pm t (k_PmM (m_md t) (m_th t) (m_pm t) (m_on t) (m_r1 t) (m_r2 t) (m_r3 t))) (k_NmM (m_md t) (m_nd t) (k_PmM (m_md t) (m_th t) (m_pm t) (m_on t) (m_r1 t) (m_r2 t) (m_r3 t)) (m_b t))) 0)) j rfl (by have := hmt _ hs; omega) (by decide) dX5_isNeeded_24 ?_
  refine k_tov (y := .int (kb ((k_NmM (m_md t) (m_nd t) (k_PmM (m_md t) (m_th t) (m_pm t) (m_on t) (m_r1 t) (m_r2 t) (m_r3 t)) (m_b t)) j))) rfl ?_
  refine k_ifz_eq (tgt := 32) hx hb dX5_isNeeded_25 (by decide) (fun h_25 => ?_) (fun h_25 => ?_)
  · refine lv_iconst (v := nI 0) hx hb dX5_isNeeded_32 (by decide) ?_
    exact k_rz hQ hx hb hr rfl hlk hS hW ⟨by rw [h_25]; rfl, rfl⟩ (Nat.le_of_ble_eq_true rfl) (Nat.le_of_ble_eq_true rfl) dX5_isNeeded_33
  · refine lv_iconst (v := nI 1) hx hb dX5_isNeeded_28 (by decide) ?_
    refine lv_goto (tgt := 33) hx hb dX5_isNeeded_29 (by decide) ?_
    exact k_rz hQ hx hb hr rfl hlk hS hW ⟨by rw [h_25]; rfl, rfl⟩ (Nat.le_of_ble_eq_true rfl) (Nat.le_of_ble_eq_true rfl) dX5_isNeeded_33
abbrev rm_X5_isProved : Room := { frames := 2, cells := 0, slots := 0, locals := 43 }
set_option maxRecDepth 100000 in
set_option maxHeartbeats 4000000 in
theorem c_X5_isProved_b (l : Launch) (hlt : l.stackTraces = false) (g : k_g) (ad : k_AD) (t : k_T) (z : Int32) (hz : z < 0 ∨ nI 60 ≤ z ∨ ∃ j, j < 60 ∧ z = nI j ∧ m_th t j = false) (hm60 : m_md t ≤ 60) : Met l yX5_isProved wsX5_isProved rm_X5_isProved (va_Pc [.ref (ad 9 0), .int z] (k_I g (k_ct g ad t) ad)) (va_Qi (fun r u => r = nI 0 ∧ u = set_m_l t 1) (fun u U => k_H g ad u U.heap) (k_A g)) 0 0 (k_A g) := by
  refine k_met (cc := cX5_isProved) (maxL := 2) (ret := (some .boolean)) (by decide) rfl (Nat.le_of_ble_eq_true rfl) (fun p e s m args below meth c Q ls hQ hx hb hr hml hts hown hlk hin hK hZ hN hW hS hl => ?_)
  have hown : s.vm.findClass RX5 = some m.cls := hown
  have hW : k_H g ad t s.heap := hW
  have hl : lv_has ls 2 [(0, .ref (ad 9 0)), (1, .int z)] := hl
  refine lv_aload_n hx hb dX5_isProved_0 rfl (lv_at hl 0 rfl) ?_
  refine lv_aload_n hx hb dX5_isProved_1 rfl (lv_at hl 0 rfl) ?_
  refine lv_iload_n hx hb dX5_isProved_2 rfl (lv_at hl 1 rfl) ?_
  refine k_ci (va_runV (As := [.int z]) (rest := [.ref (ad 9 0)]) ⟨hx, hb, hml, hown, hts⟩ (c_X5_isCopy_b l hlt g ad t z hz hm60) (cwV 1 hts gX5_isProved_X5_isCopy rfl rfl rfl (by decide +kernel) ⟨(Nat.le_of_ble_eq_true rfl), (Nat.le_of_ble_eq_true rfl)⟩) ⟨k_blind, k_recv hK hW (kc_9 g ad t) rfl, fun U hU hw => ⟨rfl, k_I.of hK hZ hN hS hW hU hw⟩⟩ rfl rfl hl.1 rfl (lv_room (Nat.le_of_ble_eq_true rfl)) dX5_isProved_3 ⟨(Nat.le_of_ble_eq_true rfl), (Nat.le_of_ble_eq_true rfl)⟩) hS (fun r u H locs hpo hW hS => ?_)
  obtain ⟨hr9, hu9⟩ := hpo; replace hu9 := hu9.symm; subst hu9; replace hr9 := hr9.symm; subst hr9
  refine lv_iconst (v := nI 1) hx hb dX5_isProved_6 (by decide) ?_
  refine lv_iconst (v := nI 1) hx hb dX5_isProved_7 (by decide) ?_
  refine k_ci (va_runV (As := [.int (nI 0), .int (nI 1), .int (nI 1)]) (rest := []) ⟨hx, hb, hml, hown, hts⟩ (c_X5_goes_1 l hlt g ad t (nI 1) (nI 1) ) (cwV 3 hts gX5_isProved_X5_goes rfl rfl rfl (by decide +kernel) ⟨(Nat.le_of_ble_eq_true rfl), (Nat.le_of_ble_eq_true rfl)⟩) ⟨k_blind, k_recv hK hW (kc_9 g ad t) rfl, fun U hU hw => ⟨rfl, k_I.of hK hZ hN hS hW hU hw⟩⟩ rfl rfl hl.1 rfl (lv_room (Nat.le_of_ble_eq_true rfl)) dX5_isProved_8 ⟨(Nat.le_of_ble_eq_true rfl), (Nat.le_of_ble_eq_true rfl)⟩) hS (fun r u H locs hpo hW hS => ?_)
  obtain ⟨hr9, hu9⟩ := hpo; replace hu9 := hu9.symm; subst hu9; replace hr9 := hr9.symm; subst hr9
  have hW : k_H g ad (set_m_l t 1) H := hW
  refine lv_if_eq (tgt := 27) hx hb dX5_isProved_11 (by decide) (fun h_11 => ?_) (fun h_11 => absurd h_11 (by decide))
  refine lv_iconst (v := nI 0) hx hb dX5_isProved_27 (by decide) ?_
  exact k_rz hQ hx hb hr rfl hlk hS hW ⟨rfl, rfl⟩ (Nat.le_of_ble_eq_true rfl) (Nat.le_of_ble_eq_true rfl) dX5_isProved_28
set_option maxRecDepth 100000 in
set_option maxHeartbeats 4000000 in
theorem c_X5_isProved_ok (l : Launch) (hlt : l.stackTraces = false) (g : k_g) (ad : k_AD) (t : k_T) (j : Nat) (hj : j < 60) (hs : m_th t j = true) (hmt : ∀ j, m_th t j = true → j < m_md t) (hm60 : m_md t ≤ 60) : Met l yX5_isProved wsX5_isProved rm_X5_isProved (va_Pc [.ref (ad 9 0), .int (nI j)] (k_I g (k_ct g ad t) ad)) (va_Qi (fun r u => r = kb (m_pv t j) ∧ u = set_m_l t 0) (fun u U => k_H g ad u U.heap) (k_A g)) 0 0 (k_A g) := by
  refine k_met (cc := cX5_isProved) (maxL := 2) (ret := (some .boolean)) (by decide) rfl (Nat.le_of_ble_eq_true rfl) (fun p e s m args below meth c Q ls hQ hx hb hr hml hts hown hlk hin hK hZ hN hW hS hl => ?_)
  have hown : s.vm.findClass RX5 = some m.cls := hown
  have hW : k_H g ad t s.heap := hW
  have hl : lv_has ls 2 [(0, .ref (ad 9 0)), (1, .int (nI j))] := hl
  have hinX5 : ∀ w ∈ wsX50, w ∈ wsX5_isProved := by decide +kernel
  refine lv_aload_n hx hb dX5_isProved_0 rfl (lv_at hl 0 rfl) ?_
  refine lv_aload_n hx hb dX5_isProved_1 rfl (lv_at hl 0 rfl) ?_
  refine lv_iload_n hx hb dX5_isProved_2 rfl (lv_at hl 1 rfl) ?_
  refine k_ci (va_runV (As := [.int (nI j)]) (rest := [.ref (ad 9 0)]) ⟨hx, hb, hml, hown, hts⟩ (c_X5_isCopy l hlt g ad t j hs hmt hm60) (cwV 1 hts gX5_isProved_X5_isCopy rfl rfl rfl (by decide +kernel) ⟨(Nat.le_of_ble_eq_true rfl), (Nat.le_of_ble_eq_true rfl)⟩) ⟨k_blind, k_recv hK hW (kc_9 g ad t) rfl, fun U hU hw => ⟨rfl, k_I.of hK hZ hN hS hW hU hw⟩⟩ rfl rfl hl.1 rfl (lv_room (Nat.le_of_ble_eq_true rfl)) dX5_isProved_3 ⟨(Nat.le_of_ble_eq_true rfl), (Nat.le_of_ble_eq_true rfl)⟩) hS (fun r u H locs hpo hW hS => ?_)
  obtain ⟨hr9, hu9⟩ := hpo; replace hu9 := hu9.symm; subst hu9; replace hr9 := hr9.symm; subst hr9
  refine lv_iconst (v := nI 1) hx hb dX5_isProved_6 (by decide) ?_
  refine lv_iconst (v := nI 1) hx hb dX5_isProved_7 (by decide) ?_
  refine k_ci (va_runV (As := [.int (nI 1), .int (nI 1), .int (nI 1)]) (rest := []) ⟨hx, hb, hml, hown, hts⟩ (c_X5_goes_0 l hlt g ad t ) (cwV 3 hts gX5_isProved_X5_goes rfl rfl rfl (by decide +kernel) ⟨(Nat.le_of_ble_eq_true rfl), (Nat.le_of_ble_eq_true rfl)⟩) ⟨k_blind, k_recv hK hW (kc_9 g ad t) rfl, fun U hU hw => ⟨rfl, k_I.of hK hZ hN hS hW hU hw⟩⟩ rfl rfl hl.1 rfl (lv_room (Nat.le_of_ble_eq_true rfl)) dX5_isProved_8 ⟨(Nat.le_of_ble_eq_true rfl), (Nat.le_of_ble_eq_true rfl)⟩) hS (fun r u H locs hpo hW hS => ?_)
  obtain ⟨hr9, hu9⟩ := hpo; replace hu9 := hu9.symm; subst hu9; replace hr9 := hr9.symm; subst hr9
  have hW : k_H g ad (set_m_l t 0) H := hW
  refine lv_if_eq (tgt := 27) hx hb dX5_isProved_11 (by decide) (fun h_11 => absurd h_11 (by decide)) (fun h_11 => ?_)
  refine lv_aload_n hx hb dX5_isProved_14 rfl (lv_at hl 0 rfl) ?_
  refine k_get (own := RX5) (C := RX5) (T := TX5) (N := 21) hx hb hts hinX5 hown hK hW (kc_9 g ad (set_m_l t 0)) rfl 11 (by decide) (hts (.fieldLink RX5 38 "DrillVaultModel" "proved" "[Z") (by decide +kernel)) rfl (v := .ref (ad 19 0)) rfl dX5_isProved_15 ?_
  refine lv_iload_n hx hb dX5_isProved_18 rfl (lv_at hl 1 rfl) ?_
  refine k_zald hx hb hK hW (kc_19 g ad (set_m_l t 0)) j rfl (by have := hmt _ hs; omega) (by decide) dX5_isProved_19 ?_
  refine k_tov (y := .int (kb (m_pv t j))) rfl ?_
  refine k_ifz_eq (tgt := 27) hx hb dX5_isProved_20 (by decide) (fun h_20 => ?_) (fun h_20 => ?_)
  · refine lv_iconst (v := nI 0) hx hb dX5_isProved_27 (by decide) ?_
    exact k_rz hQ hx hb hr rfl hlk hS hW ⟨by rw [h_20]; rfl, rfl⟩ (Nat.le_of_ble_eq_true rfl) (Nat.le_of_ble_eq_true rfl) dX5_isProved_28
  · refine lv_iconst (v := nI 1) hx hb dX5_isProved_23 (by decide) ?_
    refine lv_goto (tgt := 28) hx hb dX5_isProved_24 (by decide) ?_
    exact k_rz hQ hx hb hr rfl hlk hS hW ⟨by rw [h_20]; rfl, rfl⟩ (Nat.le_of_ble_eq_true rfl) (Nat.le_of_ble_eq_true rfl) dX5_isProved_28
abbrev rm_X5_restore : Room := { frames := 2, cells := 0, slots := 0, locals := 43 }
set_option maxRecDepth 100000 in
set_option maxHeartbeats 4000000 in
theorem c_X5_restore_b (l : Launch) (hlt : l.stackTraces = false) (g : k_g) (ad : k_AD) (t : k_T) (z : Int32) (y : Int32) (hz : z < 0 ∨ nI 60 ≤ z ∨ ∃ j, j < 60 ∧ z = nI j ∧ m_th t j = false) (hm60 : m_md t ≤ 60) : Met l yX5_restore wsX5_restore rm_X5_restore (va_Pc [.ref (ad 9 0), .int z, .int y] (k_I g (k_ct g ad t) ad)) (va_Qi (fun r u => r = nI 0 ∧ u = set_m_l t 1) (fun u U => k_H g ad u U.heap) (k_A g)) 0 0 (k_A g) := by
  refine k_met (cc := cX5_restore) (maxL := 4) (ret := (some .int)) (by decide) rfl (Nat.le_of_ble_eq_true rfl) (fun p e s m args below meth c Q ls hQ hx hb hr hml hts hown hlk hin hK hZ hN hW hS hl => ?_)
  have hown : s.vm.findClass RX5 = some m.cls := hown
  have hW : k_H g ad t s.heap := hW
  have hl : lv_has ls 4 [(0, .ref (ad 9 0)), (1, .int z), (2, .int y)] := hl
  refine lv_aload_n hx hb dX5_restore_0 rfl (lv_at hl 0 rfl) ?_
  refine lv_aload_n hx hb dX5_restore_1 rfl (lv_at hl 0 rfl) ?_
  refine lv_iload_n hx hb dX5_restore_2 rfl (lv_at hl 1 rfl) ?_
  refine k_ci (va_runV (As := [.int z]) (rest := [.ref (ad 9 0)]) ⟨hx, hb, hml, hown, hts⟩ (c_X5_isCopy_b l hlt g ad t z hz hm60) (cwV 1 hts gX5_restore_X5_isCopy rfl rfl rfl (by decide +kernel) ⟨(Nat.le_of_ble_eq_true rfl), (Nat.le_of_ble_eq_true rfl)⟩) ⟨k_blind, k_recv hK hW (kc_9 g ad t) rfl, fun U hU hw => ⟨rfl, k_I.of hK hZ hN hS hW hU hw⟩⟩ rfl rfl hl.1 rfl (lv_room (Nat.le_of_ble_eq_true rfl)) dX5_restore_3 ⟨(Nat.le_of_ble_eq_true rfl), (Nat.le_of_ble_eq_true rfl)⟩) hS (fun r u H locs hpo hW hS => ?_)
  obtain ⟨hr9, hu9⟩ := hpo; replace hu9 := hu9.symm; subst hu9; replace hr9 := hr9.symm; subst hr9
  refine lv_if_eq (tgt := 20) hx hb dX5_restore_6 (by decide) (fun h_6 => ?_) (fun h_6 => absurd h_6 (by decide))
  refine lv_iconst (v := nI 0) hx hb dX5_restore_20 (by decide) ?_
  refine lv_iconst (v := nI 1) hx hb dX5_restore_21 (by decide) ?_
  refine lv_iconst (v := nI 1) hx hb dX5_restore_22 (by decide) ?_
  refine k_ci (va_runV (As := [.int (nI 0), .int (nI 1), .int (nI 1)]) (rest := []) ⟨hx, hb, hml, hown, hts⟩ (c_X5_goes_1 l hlt g ad t (nI 1) (nI 1) ) (cwV 3 hts gX5_restore_X5_goes rfl rfl rfl (by decide +kernel) ⟨(Nat.le_of_ble_eq_true rfl), (Nat.le_of_ble_eq_true rfl)⟩) ⟨k_blind, k_recv hK hW (kc_9 g ad t) rfl, fun U hU hw => ⟨rfl, k_I.of hK hZ hN hS hW hU hw⟩⟩ rfl rfl hl.1 rfl (lv_room (Nat.le_of_ble_eq_true rfl)) dX5_restore_23 ⟨(Nat.le_of_ble_eq_true rfl), (Nat.le_of_ble_eq_true rfl)⟩) hS (fun r u H locs hpo hW hS => ?_)
  obtain ⟨hr9, hu9⟩ := hpo; replace hu9 := hu9.symm; subst hu9; replace hr9 := hr9.symm; subst hr9
  have hW : k_H g ad (set_m_l t 1) H := hW
  refine lv_if_ne (tgt := 31) hx hb dX5_restore_26 (by decide) (fun h_26 => absurd h_26 (by decide)) (fun h_26 => ?_)
  refine lv_iconst (v := nI 0) hx hb dX5_restore_29 (by decide) ?_
  exact k_ri hQ hx hb hr hlk hS hW ⟨rfl, rfl⟩ (Nat.le_of_ble_eq_true rfl) (Nat.le_of_ble_eq_true rfl) dX5_restore_30
set_option maxRecDepth 100000 in
set_option maxHeartbeats 4000000 in
theorem c_X5_restore_bf (l : Launch) (hlt : l.stackTraces = false) (g : k_g) (ad : k_AD) (t : k_T) (j : Nat) (z : Int32) (hj : j < 60) (hs : m_th t j = true) (hmt : ∀ j, m_th t j = true → j < m_md t) (hm60 : m_md t ≤ 60) (hz : z < 0 ∨ nI 10 ≤ z) : Met l yX5_restore wsX5_restore rm_X5_restore (va_Pc [.ref (ad 9 0), .int (nI j), .int z] (k_I g (k_ct g ad t) ad)) (va_Qi (fun r u => r = nI 0 ∧ u = set_m_l t 1) (fun u U => k_H g ad u U.heap) (k_A g)) 0 0 (k_A g) := by
  refine k_met (cc := cX5_restore) (maxL := 4) (ret := (some .int)) (by decide) rfl (Nat.le_of_ble_eq_true rfl) (fun p e s m args below meth c Q ls hQ hx hb hr hml hts hown hlk hin hK hZ hN hW hS hl => ?_)
  have hown : s.vm.findClass RX5 = some m.cls := hown
  have hW : k_H g ad t s.heap := hW
  have hl : lv_has ls 4 [(0, .ref (ad 9 0)), (1, .int (nI j)), (2, .int z)] := hl
  refine lv_aload_n hx hb dX5_restore_0 rfl (lv_at hl 0 rfl) ?_
  refine lv_aload_n hx hb dX5_restore_1 rfl (lv_at hl 0 rfl) ?_
  refine lv_iload_n hx hb dX5_restore_2 rfl (lv_at hl 1 rfl) ?_
  refine k_ci (va_runV (As := [.int (nI j)]) (rest := [.ref (ad 9 0)]) ⟨hx, hb, hml, hown, hts⟩ (c_X5_isCopy l hlt g ad t j hs hmt hm60) (cwV 1 hts gX5_restore_X5_isCopy rfl rfl rfl (by decide +kernel) ⟨(Nat.le_of_ble_eq_true rfl), (Nat.le_of_ble_eq_true rfl)⟩) ⟨k_blind, k_recv hK hW (kc_9 g ad t) rfl, fun U hU hw => ⟨rfl, k_I.of hK hZ hN hS hW hU hw⟩⟩ rfl rfl hl.1 rfl (lv_room (Nat.le_of_ble_eq_true rfl)) dX5_restore_3 ⟨(Nat.le_of_ble_eq_true rfl), (Nat.le_of_ble_eq_true rfl)⟩) hS (fun r u H locs hpo hW hS => ?_)
  obtain ⟨hr9, hu9⟩ := hpo; replace hu9 := hu9.symm; subst hu9; replace hr9 := hr9.symm; subst hr9
  refine lv_if_eq (tgt := 20) hx hb dX5_restore_6 (by decide) (fun h_6 => absurd h_6 (by decide)) (fun h_6 => ?_)
  refine lv_iload_n hx hb dX5_restore_9 rfl (lv_at hl 2 rfl) ?_
  refine k_ci (va_runS (As := [.int z]) (rest := [.ref (ad 9 0)]) ⟨hx, hb, hml, hown, hts⟩ (c_X5_isFile_b l hlt g ad t z hz) (va_cwS 1 hts gX5_restore_X5_isFile rfl rfl rfl (by decide +kernel) ⟨(Nat.le_of_ble_eq_true rfl), (Nat.le_of_ble_eq_true rfl)⟩) ⟨k_blind, fun U hU hw => ⟨rfl, k_I.of hK hZ hN hS hW hU hw⟩⟩ rfl rfl hl.1 rfl (lv_room (Nat.le_of_ble_eq_true rfl)) dX5_restore_10 ⟨(Nat.le_of_ble_eq_true rfl), (Nat.le_of_ble_eq_true rfl)⟩) hS (fun r u H locs hpo hW hS => ?_)
  obtain ⟨hr9, hu9⟩ := hpo; replace hu9 := hu9.symm; subst hu9; replace hr9 := hr9.symm; subst hr9
  refine lv_if_eq (tgt := 20) hx hb dX5_restore_13 (by decide) (fun h_13 => ?_) (fun h_13 => absurd h_13 (by decide))
  refine lv_iconst (v := nI 0) hx hb dX5_restore_20 (by decide) ?_
  refine lv_iconst (v := nI 1) hx hb dX5_restore_21 (by decide) ?_
  refine lv_iconst (v := nI 1) hx hb dX5_restore_22 (by decide) ?_
  refine k_ci (va_runV (As := [.int (nI 0), .int (nI 1), .int (nI 1)]) (rest := []) ⟨hx, hb, hml, hown, hts⟩ (c_X5_goes_1 l hlt g ad t (nI 1) (nI 1) ) (cwV 3 hts gX5_restore_X5_goes rfl rfl rfl (by decide +kernel) ⟨(Nat.le_of_ble_eq_true rfl), (Nat.le_of_ble_eq_true rfl)⟩) ⟨k_blind, k_recv hK hW (kc_9 g ad t) rfl, fun U hU hw => ⟨rfl, k_I.of hK hZ hN hS hW hU hw⟩⟩ rfl rfl hl.1 rfl (lv_room (Nat.le_of_ble_eq_true rfl)) dX5_restore_23 ⟨(Nat.le_of_ble_eq_true rfl), (Nat.le_of_ble_eq_true rfl)⟩) hS (fun r u H locs hpo hW hS => ?_)
  obtain ⟨hr9, hu9⟩ := hpo; replace hu9 := hu9.symm; subst hu9; replace hr9 := hr9.symm; subst hr9
  have hW : k_H g ad (set_m_l t 1) H := hW
  refine lv_if_ne (tgt := 31) hx hb dX5_restore_26 (by decide) (fun h_26 => absurd h_26 (by decide)) (fun h_26 => ?_)
  refine lv_iconst (v := nI 0) hx hb dX5_restore_29 (by decide) ?_
  exact k_ri hQ hx hb hr hlk hS hW ⟨rfl, rfl⟩ (Nat.le_of_ble_eq_true rfl) (Nat.le_of_ble_eq_true rfl) dX5_restore_30
set_option maxRecDepth 100000 in
set_option maxHeartbeats 4000000 in
theorem c_X5_restore_ok (l : Launch) (hlt : l.stackTraces = false) (g : k_g) (ad : k_AD) (t : k_T) (j : Nat) (f : Nat) (hj : j < 60) (hs : m_th t j = true) (hmt : ∀ j, m_th t j = true → j < m_md t) (hf : f < 10) (hm60 : m_md t ≤ 60) (hmb : ∀ k b, k < m_md t → m_b t k = some b → b < k) (hful : ∀ k, k < m_md t → m_b t k = none → ∀ f, f < 10 → ¬ m_k t (10 * k + f) = -1) : Met l yX5_restore wsX5_restore rm_X5_restore (va_Pc [.ref (ad 9 0), .int (nI j), .int (nI f)] (k_I g (k_ct g ad t) ad)) (va_Qi (fun r u => r = k_fk (fun k f => (m_k t) (10 * k + f)) f (k_cl (m_b t) j) ∧ u = set_m_l t 0) (fun u U => k_H g ad u U.heap) (k_A g)) 0 0 (k_A g) := by
  refine k_met (cc := cX5_restore) (maxL := 4) (ret := (some .int)) (by decide) rfl (Nat.le_of_ble_eq_true rfl) (fun p e s m args below meth c Q ls hQ hx hb hr hml hts hown hlk hin hK hZ hN hW hS hl => ?_)
  have hown : s.vm.findClass RX5 = some m.cls := hown
  have hW : k_H g ad t s.heap := hW
  have hl : lv_has ls 4 [(0, .ref (ad 9 0)), (1, .int (nI j)), (2, .int (nI f))] := hl
  have hinX5 : ∀ w ∈ wsX50, w ∈ wsX5_restore := by decide +kernel
  refine lv_aload_n hx hb dX5_restore_0 rfl (lv_at hl 0 rfl) ?_
  refine lv_aload_n hx hb dX5_restore_1 rfl (lv_at hl 0 rfl) ?_
  refine lv_iload_n hx hb dX5_restore_2 rfl (lv_at hl 1 rfl) ?_
  refine k_ci (va_runV (As := [.int (nI j)]) (rest := [.ref (ad 9 0)]) ⟨hx, hb, hml, hown, hts⟩ (c_X5_isCopy l hlt g ad t j hs hmt hm60) (cwV 1 hts gX5_restore_X5_isCopy rfl rfl rfl (by decide +kernel) ⟨(Nat.le_of_ble_eq_true rfl), (Nat.le_of_ble_eq_true rfl)⟩) ⟨k_blind, k_recv hK hW (kc_9 g ad t) rfl, fun U hU hw => ⟨rfl, k_I.of hK hZ hN hS hW hU hw⟩⟩ rfl rfl hl.1 rfl (lv_room (Nat.le_of_ble_eq_true rfl)) dX5_restore_3 ⟨(Nat.le_of_ble_eq_true rfl), (Nat.le_of_ble_eq_true rfl)⟩) hS (fun r u H locs hpo hW hS => ?_)
  obtain ⟨hr9, hu9⟩ := hpo; replace hu9 := hu9.symm; subst hu9; replace hr9 := hr9.symm; subst hr9
  refine lv_if_eq (tgt := 20) hx hb dX5_restore_6 (by decide) (fun h_6 => absurd h_6 (by decide)) (fun h_6 => ?_)
  refine lv_iload_n hx hb dX5_restore_9 rfl (lv_at hl 2 rfl) ?_
  refine k_ci (va_runS (As := [.int (nI f)]) (rest := [.ref (ad 9 0)]) ⟨hx, hb, hml, hown, hts⟩ (c_X5_isFile l hlt g ad t f hf) (va_cwS 1 hts gX5_restore_X5_isFile rfl rfl rfl (by decide +kernel) ⟨(Nat.le_of_ble_eq_true rfl), (Nat.le_of_ble_eq_true rfl)⟩) ⟨k_blind, fun U hU hw => ⟨rfl, k_I.of hK hZ hN hS hW hU hw⟩⟩ rfl rfl hl.1 rfl (lv_room (Nat.le_of_ble_eq_true rfl)) dX5_restore_10 ⟨(Nat.le_of_ble_eq_true rfl), (Nat.le_of_ble_eq_true rfl)⟩) hS (fun r u H locs hpo hW hS => ?_)
  obtain ⟨hr9, hu9⟩ := hpo; replace hu9 := hu9.symm; subst hu9; replace hr9 := hr9.symm; subst hr9
  refine lv_if_eq (tgt := 20) hx hb dX5_restore_13 (by decide) (fun h_13 => absurd h_13 (by decide)) (fun h_13 => ?_)
  refine lv_iconst (v := nI 1) hx hb dX5_restore_16 (by decide) ?_
  refine lv_goto (tgt := 21) hx hb dX5_restore_17 (by decide) ?_
  refine lv_iconst (v := nI 1) hx hb dX5_restore_21 (by decide) ?_
  refine lv_iconst (v := nI 1) hx hb dX5_restore_22 (by decide) ?_
  refine k_ci (va_runV (As := [.int (nI 1), .int (nI 1), .int (nI 1)]) (rest := []) ⟨hx, hb, hml, hown, hts⟩ (c_X5_goes_0 l hlt g ad t ) (cwV 3 hts gX5_restore_X5_goes rfl rfl rfl (by decide +kernel) ⟨(Nat.le_of_ble_eq_true rfl), (Nat.le_of_ble_eq_true rfl)⟩) ⟨k_blind, k_recv hK hW (kc_9 g ad t) rfl, fun U hU hw => ⟨rfl, k_I.of hK hZ hN hS hW hU hw⟩⟩ rfl rfl hl.1 rfl (lv_room (Nat.le_of_ble_eq_true rfl)) dX5_restore_23 ⟨(Nat.le_of_ble_eq_true rfl), (Nat.le_of_ble_eq_true rfl)⟩) hS (fun r u H locs hpo hW hS => ?_)
  obtain ⟨hr9, hu9⟩ := hpo; replace hu9 := hu9.symm; subst hu9; replace hr9 := hr9.symm; subst hr9
  have hW : k_H g ad (set_m_l t 0) H := hW
  refine lv_if_ne (tgt := 31) hx hb dX5_restore_26 (by decide) (fun h_26 => ?_) (fun h_26 => absurd h_26 (by decide))
  refine lv_iload_n hx hb dX5_restore_31 rfl (lv_at hl 1 rfl) ?_
  refine lv_istore_n (lv' := [(3, .int (nI j)), (0, .ref (ad 9 0)), (1, .int (nI j)), (2, .int (nI f))]) hx hb dX5_restore_32 rfl hl (by decide) rfl (fun ls hl => ?_)
  have hloop_33 : ∀ (n : Nat) (k : Nat), (k < n) → (k < m_md t) → (k_fk (fun k f => m_k t (10 * k + f)) f (k_cl (m_b t) j) = k_fk (fun k f => m_k t (10 * k + f)) f (k_cl (m_b t) k)) → ∀ (H : Heap) (locs : List Loc), k_H g ad (set_m_l t 0) H → va_S (k_A g) s.heap H locs → ∀ (ls : Array Slot), lv_has ls 4 [(0, .ref (ad 9 0)), (2, .int (nI f)), (3, .int (nI k))] → W p l e rm_X5_restore s m args below meth c H locs 0 0 Q (F0 m 33 ls []) := by
    intro n
    induction n with
    | zero =>
      intro k hfu hkm hz
      exact absurd hfu (by omega)
    | succ n ih =>
      intro k hfu hkm hz H locs hW hS ls hl
      refine lv_aload_n hx hb dX5_restore_33 rfl (lv_at hl 0 rfl) ?_
      refine k_get (own := RX5) (C := RX5) (T := TX5) (N := 21) hx hb hts hinX5 hown hK hW (kc_9 g ad (set_m_l t 0)) rfl 8 (by decide) (hts (.fieldLink RX5 28 "DrillVaultModel" "kept" "[I") (by decide +kernel)) rfl (v := .ref (ad 16 0)) rfl dX5_restore_34 ?_
      refine lv_bipush (v := nI 10) hx hb dX5_restore_37 (by decide) ?_
      refine lv_iload_n hx hb dX5_restore_39 rfl (lv_at hl 2 rfl) ?_
      refine k_imul hx hb dX5_restore_40 ?_
      refine lv_iload_n hx hb dX5_restore_41 rfl (lv_at hl 1 rfl) ?_
      refine k_iadd hx hb dX5_restore_42 ?_
      refine k_iald hx hb hK hW (kc_16 g ad (set_m_l t 0)) ((10 * k) + f) rfl (by omega) (by decide) dX5_restore_43 ?_
      refine k_tov (y := .int (m_k t ((10 * k) + f))) rfl ?_
      refine lv_iconst (v := (-1)) hx hb dX5_restore_44 (by decide) ?_
      refine lv_icmp_ne (tgt := 58) hx hb dX5_restore_45 (by decide) (fun h_45 => ?_) (fun h_45 => ?_)
      · refine lv_aload_n hx hb dX5_restore_58 rfl (lv_at hl 0 rfl) ?_
        refine k_get (own := RX5) (C := RX5) (T := TX5) (N := 21) hx hb hts hinX5 hown hK hW (kc_9 g ad (set_m_l t 0)) rfl 8 (by decide) (hts (.fieldLink RX5 28 "DrillVaultModel" "kept" "[I") (by decide +kernel)) rfl (v := .ref (ad 16 0)) rfl dX5_restore_59 ?_
        refine lv_bipush (v := nI 10) hx hb dX5_restore_62 (by decide) ?_
        refine lv_iload_n hx hb dX5_restore_64 rfl (lv_at hl 2 rfl) ?_
        refine k_imul hx hb dX5_restore_65 ?_
        refine lv_iload_n hx hb dX5_restore_66 rfl (lv_at hl 1 rfl) ?_
        refine k_iadd hx hb dX5_restore_67 ?_
        refine k_iald hx hb hK hW (kc_16 g ad (set_m_l t 0)) ((10 * k) + f) rfl (by omega) (by decide) dX5_restore_68 ?_
        refine k_tov (y := .int (m_k t ((10 * k) + f))) rfl ?_
        exact k_ri hQ hx hb hr hlk hS hW ⟨by rw [hz, k_fk_hd h_45], rfl⟩ (Nat.le_of_ble_eq_true rfl) (Nat.le_of_ble_eq_true rfl) dX5_restore_69
      · obtain ⟨b9, hb9⟩ : ∃ b9, m_b t k = some b9 := by
          cases h9 : m_b t k with
          | none => exact absurd h_45 (hful k hkm h9 f hf)
          | some b9 => exact ⟨b9, rfl⟩
        have hb9lt := hmb _ _ hkm hb9
        refine lv_aload_n hx hb dX5_restore_48 rfl (lv_at hl 0 rfl) ?_
        refine k_get (own := RX5) (C := RX5) (T := TX5) (N := 21) hx hb hts hinX5 hown hK hW (kc_9 g ad (set_m_l t 0)) rfl 5 (by decide) (hts (.fieldLink RX5 19 "DrillVaultModel" "bases" "[I") (by decide +kernel)) rfl (v := .ref (ad 13 0)) rfl dX5_restore_49 ?_
        refine lv_iload_n hx hb dX5_restore_52 rfl (lv_at hl 2 rfl) ?_
        refine k_iald hx hb hK hW (kc_13 g ad (set_m_l t 0)) k rfl (by omega) (by decide) dX5_restore_53 ?_
        refine k_tov (y := .int (kO (m_b t k))) rfl ?_
        refine k_tov (y := .int (nI b9)) (by rw [hb9]; rfl) ?_
        refine lv_istore_n (lv' := [(3, .int (nI b9)), (0, .ref (ad 9 0)), (2, .int (nI f))]) hx hb dX5_restore_54 rfl hl (by decide) rfl (fun ls hl => ?_)
        refine lv_goto (tgt := 33) hx hb dX5_restore_55 (by decide) ?_
        exact ih b9 (by omega) (by omega) (by rw [hz, k_fk_tl h_45 hb9 hb9lt]) _ _ hW hS _ (lv_sub hl [1, 2, 0] rfl)
  exact hloop_33 (j + 1) j (by omega) (hmt _ hs) rfl _ _ hW hS _ (lv_sub hl [1, 3, 0] rfl)
abbrev rm_X5_restoreByChanges : Room := { frames := 3, cells := 0, slots := 0, locals := 66 }
set_option maxRecDepth 100000 in
set_option maxHeartbeats 4000000 in
theorem c_X5_restoreByChanges_b (l : Launch) (hlt : l.stackTraces = false) (g : k_g) (ad : k_AD) (t : k_T) (z : Int32) (y : Int32) (hz : z < 0 ∨ nI 60 ≤ z ∨ ∃ j, j < 60 ∧ z = nI j ∧ m_th t j = false) (hm60 : m_md t ≤ 60) : Met l yX5_restoreByChanges wsX5_restoreByChanges rm_X5_restoreByChanges (va_Pc [.ref (ad 9 0), .int z, .int y] (k_I g (k_ct g ad t) ad)) (va_Qi (fun r u => r = nI 0 ∧ u = set_m_l t 1) (fun u U => k_H g ad u U.heap) (k_A g)) 0 0 (k_A g) := by
  refine k_met (cc := cX5_restoreByChanges) (maxL := 3) (ret := (some .int)) (by decide) rfl (Nat.le_of_ble_eq_true rfl) (fun p e s m args below meth c Q ls hQ hx hb hr hml hts hown hlk hin hK hZ hN hW hS hl => ?_)
  have hown : s.vm.findClass RX5 = some m.cls := hown
  have hW : k_H g ad t s.heap := hW
  have hl : lv_has ls 3 [(0, .ref (ad 9 0)), (1, .int z), (2, .int y)] := hl
  refine lv_aload_n hx hb dX5_restoreByChanges_0 rfl (lv_at hl 0 rfl) ?_
  refine lv_iload_n hx hb dX5_restoreByChanges_1 rfl (lv_at hl 1 rfl) ?_
  refine lv_iload_n hx hb dX5_restoreByChanges_2 rfl (lv_at hl 2 rfl) ?_
  refine k_ci (va_runV (As := [.int z, .int y]) (rest := []) ⟨hx, hb, hml, hown, hts⟩ (c_X5_restore_b l hlt g ad t z y hz hm60) (cwV 2 hts gX5_restoreByChanges_X5_restore rfl rfl rfl (by decide +kernel) ⟨(Nat.le_of_ble_eq_true rfl), (Nat.le_of_ble_eq_true rfl)⟩) ⟨k_blind, k_recv hK hW (kc_9 g ad t) rfl, fun U hU hw => ⟨rfl, k_I.of hK hZ hN hS hW hU hw⟩⟩ rfl rfl hl.1 rfl (lv_room (Nat.le_of_ble_eq_true rfl)) dX5_restoreByChanges_3 ⟨(Nat.le_of_ble_eq_true rfl), (Nat.le_of_ble_eq_true rfl)⟩) hS (fun r u H locs hpo hW hS => ?_)
  obtain ⟨hr9, hu9⟩ := hpo; replace hu9 := hu9.symm; subst hu9; replace hr9 := hr9.symm; subst hr9
  have hW : k_H g ad (set_m_l t 1) H := hW
  exact k_ri hQ hx hb hr hlk hS hW ⟨rfl, rfl⟩ (Nat.le_of_ble_eq_true rfl) (Nat.le_of_ble_eq_true rfl) dX5_restoreByChanges_6
set_option maxRecDepth 100000 in
set_option maxHeartbeats 4000000 in
theorem c_X5_restoreByChanges_bf (l : Launch) (hlt : l.stackTraces = false) (g : k_g) (ad : k_AD) (t : k_T) (j : Nat) (z : Int32) (hj : j < 60) (hs : m_th t j = true) (hmt : ∀ j, m_th t j = true → j < m_md t) (hm60 : m_md t ≤ 60) (hz : z < 0 ∨ nI 10 ≤ z) : Met l yX5_restoreByChanges wsX5_restoreByChanges rm_X5_restoreByChanges (va_Pc [.ref (ad 9 0), .int (nI j), .int z] (k_I g (k_ct g ad t) ad)) (va_Qi (fun r u => r = nI 0 ∧ u = set_m_l t 1) (fun u U => k_H g ad u U.heap) (k_A g)) 0 0 (k_A g) := by
  refine k_met (cc := cX5_restoreByChanges) (maxL := 3) (ret := (some .int)) (by decide) rfl (Nat.le_of_ble_eq_true rfl) (fun p e s m args below meth c Q ls hQ hx hb hr hml hts hown hlk hin hK hZ hN hW hS hl => ?_)
  have hown : s.vm.findClass RX5 = some m.cls := hown
  have hW : k_H g ad t s.heap := hW
  have hl : lv_has ls 3 [(0, .ref (ad 9 0)), (1, .int (nI j)), (2, .int z)] := hl
  refine lv_aload_n hx hb dX5_restoreByChanges_0 rfl (lv_at hl 0 rfl) ?_
  refine lv_iload_n hx hb dX5_restoreByChanges_1 rfl (lv_at hl 1 rfl) ?_
  refine lv_iload_n hx hb dX5_restoreByChanges_2 rfl (lv_at hl 2 rfl) ?_
  refine k_ci (va_runV (As := [.int (nI j), .int z]) (rest := []) ⟨hx, hb, hml, hown, hts⟩ (c_X5_restore_bf l hlt g ad t j z hj hs hmt hm60 hz) (cwV 2 hts gX5_restoreByChanges_X5_restore rfl rfl rfl (by decide +kernel) ⟨(Nat.le_of_ble_eq_true rfl), (Nat.le_of_ble_eq_true rfl)⟩) ⟨k_blind, k_recv hK hW (kc_9 g ad t) rfl, fun U hU hw => ⟨rfl, k_I.of hK hZ hN hS hW hU hw⟩⟩ rfl rfl hl.1 rfl (lv_room (Nat.le_of_ble_eq_true rfl)) dX5_restoreByChanges_3 ⟨(Nat.le_of_ble_eq_true rfl), (Nat.le_of_ble_eq_true rfl)⟩) hS (fun r u H locs hpo hW hS => ?_)
  obtain ⟨hr9, hu9⟩ := hpo; replace hu9 := hu9.symm; subst hu9; replace hr9 := hr9.symm; subst hr9
  have hW : k_H g ad (set_m_l t 1) H := hW
  exact k_ri hQ hx hb hr hlk hS hW ⟨rfl, rfl⟩ (Nat.le_of_ble_eq_true rfl) (Nat.le_of_ble_eq_true rfl) dX5_restoreByChanges_6
set_option maxRecDepth 100000 in
set_option maxHeartbeats 4000000 in
theorem c_X5_restoreByChanges_ok (l : Launch) (hlt : l.stackTraces = false) (g : k_g) (ad : k_AD) (t : k_T) (j : Nat) (f : Nat) (hj : j < 60) (hs : m_th t j = true) (hmt : ∀ j, m_th t j = true → j < m_md t) (hf : f < 10) (hm60 : m_md t ≤ 60) (hmb : ∀ k b, k < m_md t → m_b t k = some b → b < k) (hful : ∀ k, k < m_md t → m_b t k = none → ∀ f, f < 10 → ¬ m_k t (10 * k + f) = -1) : Met l yX5_restoreByChanges wsX5_restoreByChanges rm_X5_restoreByChanges (va_Pc [.ref (ad 9 0), .int (nI j), .int (nI f)] (k_I g (k_ct g ad t) ad)) (va_Qi (fun r u => r = k_fk (fun k f => (m_k t) (10 * k + f)) f (k_cl (m_b t) j) ∧ u = set_m_l t 0) (fun u U => k_H g ad u U.heap) (k_A g)) 0 0 (k_A g) := by
  refine k_met (cc := cX5_restoreByChanges) (maxL := 3) (ret := (some .int)) (by decide) rfl (Nat.le_of_ble_eq_true rfl) (fun p e s m args below meth c Q ls hQ hx hb hr hml hts hown hlk hin hK hZ hN hW hS hl => ?_)
  have hown : s.vm.findClass RX5 = some m.cls := hown
  have hW : k_H g ad t s.heap := hW
  have hl : lv_has ls 3 [(0, .ref (ad 9 0)), (1, .int (nI j)), (2, .int (nI f))] := hl
  refine lv_aload_n hx hb dX5_restoreByChanges_0 rfl (lv_at hl 0 rfl) ?_
  refine lv_iload_n hx hb dX5_restoreByChanges_1 rfl (lv_at hl 1 rfl) ?_
  refine lv_iload_n hx hb dX5_restoreByChanges_2 rfl (lv_at hl 2 rfl) ?_
  refine k_ci (va_runV (As := [.int (nI j), .int (nI f)]) (rest := []) ⟨hx, hb, hml, hown, hts⟩ (c_X5_restore_ok l hlt g ad t j f hj hs hmt hf hm60 hmb hful) (cwV 2 hts gX5_restoreByChanges_X5_restore rfl rfl rfl (by decide +kernel) ⟨(Nat.le_of_ble_eq_true rfl), (Nat.le_of_ble_eq_true rfl)⟩) ⟨k_blind, k_recv hK hW (kc_9 g ad t) rfl, fun U hU hw => ⟨rfl, k_I.of hK hZ hN hS hW hU hw⟩⟩ rfl rfl hl.1 rfl (lv_room (Nat.le_of_ble_eq_true rfl)) dX5_restoreByChanges_3 ⟨(Nat.le_of_ble_eq_true rfl), (Nat.le_of_ble_eq_true rfl)⟩) hS (fun r u H locs hpo hW hS => ?_)
  obtain ⟨hr9, hu9⟩ := hpo; replace hu9 := hu9.symm; subst hu9; replace hr9 := hr9.symm; subst hr9
  have hW : k_H g ad (set_m_l t 0) H := hW
  exact k_ri hQ hx hb hr hlk hS hW ⟨rfl, rfl⟩ (Nat.le_of_ble_eq_true rfl) (Nat.le_of_ble_eq_true rfl) dX5_restoreByChanges_6
abbrev rm_X5_onCall : Room := { frames := 2, cells := 0, slots := 0, locals := 42 }
set_option maxRecDepth 100000 in
set_option maxHeartbeats 4000000 in
theorem c_X5_onCall_b (l : Launch) (hlt : l.stackTraces = false) (g : k_g) (ad : k_AD) (t : k_T) (z : Int32) (hz : z < 0 ∨ nI 364 < z) : Met l yX5_onCall wsX5_onCall rm_X5_onCall (va_Pc [.ref (ad 9 0), .int z] (k_I g (k_ct g ad t) ad)) (va_Qi (fun r u => r = nI 0 ∧ u = set_m_l t 1) (fun u U => k_H g ad u U.heap) (k_A g)) 0 0 (k_A g) := by
  refine k_met (cc := cX5_onCall) (maxL := 2) (ret := (some .int)) (by decide) rfl (Nat.le_of_ble_eq_true rfl) (fun p e s m args below meth c Q ls hQ hx hb hr hml hts hown hlk hin hK hZ hN hW hS hl => ?_)
  have hown : s.vm.findClass RX5 = some m.cls := hown
  have hW : k_H g ad t s.heap := hW
  have hl : lv_has ls 2 [(0, .ref (ad 9 0)), (1, .int z)] := hl
  refine lv_aload_n hx hb dX5_onCall_0 rfl (lv_at hl 0 rfl) ?_
  refine lv_iload_n hx hb dX5_onCall_1 rfl (lv_at hl 1 rfl) ?_
  refine k_ci (va_runS (As := [.int z]) (rest := [.ref (ad 9 0)]) ⟨hx, hb, hml, hown, hts⟩ (c_X5_isDay_b l hlt g ad t z hz) (va_cwS 1 hts gX5_onCall_X5_isDay rfl rfl rfl (by decide +kernel) ⟨(Nat.le_of_ble_eq_true rfl), (Nat.le_of_ble_eq_true rfl)⟩) ⟨k_blind, fun U hU hw => ⟨rfl, k_I.of hK hZ hN hS hW hU hw⟩⟩ rfl rfl hl.1 rfl (lv_room (Nat.le_of_ble_eq_true rfl)) dX5_onCall_2 ⟨(Nat.le_of_ble_eq_true rfl), (Nat.le_of_ble_eq_true rfl)⟩) hS (fun r u H locs hpo hW hS => ?_)
  obtain ⟨hr9, hu9⟩ := hpo; replace hu9 := hu9.symm; subst hu9; replace hr9 := hr9.symm; subst hr9
  refine lv_iconst (v := nI 1) hx hb dX5_onCall_5 (by decide) ?_
  refine lv_iconst (v := nI 1) hx hb dX5_onCall_6 (by decide) ?_
  refine k_ci (va_runV (As := [.int (nI 0), .int (nI 1), .int (nI 1)]) (rest := []) ⟨hx, hb, hml, hown, hts⟩ (c_X5_goes_1 l hlt g ad t (nI 1) (nI 1) ) (cwV 3 hts gX5_onCall_X5_goes rfl rfl rfl (by decide +kernel) ⟨(Nat.le_of_ble_eq_true rfl), (Nat.le_of_ble_eq_true rfl)⟩) ⟨k_blind, k_recv hK hW (kc_9 g ad t) rfl, fun U hU hw => ⟨rfl, k_I.of hK hZ hN hS hW hU hw⟩⟩ rfl rfl hl.1 rfl (lv_room (Nat.le_of_ble_eq_true rfl)) dX5_onCall_7 ⟨(Nat.le_of_ble_eq_true rfl), (Nat.le_of_ble_eq_true rfl)⟩) hS (fun r u H locs hpo hW hS => ?_)
  obtain ⟨hr9, hu9⟩ := hpo; replace hu9 := hu9.symm; subst hu9; replace hr9 := hr9.symm; subst hr9
  have hW : k_H g ad (set_m_l t 1) H := hW
  refine lv_if_eq (tgt := 22) hx hb dX5_onCall_10 (by decide) (fun h_10 => ?_) (fun h_10 => absurd h_10 (by decide))
  refine lv_iconst (v := nI 0) hx hb dX5_onCall_22 (by decide) ?_
  exact k_ri hQ hx hb hr hlk hS hW ⟨rfl, rfl⟩ (Nat.le_of_ble_eq_true rfl) (Nat.le_of_ble_eq_true rfl) dX5_onCall_23
set_option maxRecDepth 100000 in
set_option maxHeartbeats 4000000 in
theorem c_X5_onCall_ok (l : Launch) (hlt : l.stackTraces = false) (g : k_g) (ad : k_AD) (t : k_T) (j : Nat) (hj : j ≤ 364) : Met l yX5_onCall wsX5_onCall rm_X5_onCall (va_Pc [.ref (ad 9 0), .int (nI j)] (k_I g (k_ct g ad t) ad)) (va_Qi (fun r u => r = nI (m_rt t j) ∧ u = set_m_l t 0) (fun u U => k_H g ad u U.heap) (k_A g)) 0 0 (k_A g) := by
  refine k_met (cc := cX5_onCall) (maxL := 2) (ret := (some .int)) (by decide) rfl (Nat.le_of_ble_eq_true rfl) (fun p e s m args below meth c Q ls hQ hx hb hr hml hts hown hlk hin hK hZ hN hW hS hl => ?_)
  have hown : s.vm.findClass RX5 = some m.cls := hown
  have hW : k_H g ad t s.heap := hW
  have hl : lv_has ls 2 [(0, .ref (ad 9 0)), (1, .int (nI j))] := hl
  have hinX5 : ∀ w ∈ wsX50, w ∈ wsX5_onCall := by decide +kernel
  refine lv_aload_n hx hb dX5_onCall_0 rfl (lv_at hl 0 rfl) ?_
  refine lv_iload_n hx hb dX5_onCall_1 rfl (lv_at hl 1 rfl) ?_
  refine k_ci (va_runS (As := [.int (nI j)]) (rest := [.ref (ad 9 0)]) ⟨hx, hb, hml, hown, hts⟩ (c_X5_isDay l hlt g ad t j hj) (va_cwS 1 hts gX5_onCall_X5_isDay rfl rfl rfl (by decide +kernel) ⟨(Nat.le_of_ble_eq_true rfl), (Nat.le_of_ble_eq_true rfl)⟩) ⟨k_blind, fun U hU hw => ⟨rfl, k_I.of hK hZ hN hS hW hU hw⟩⟩ rfl rfl hl.1 rfl (lv_room (Nat.le_of_ble_eq_true rfl)) dX5_onCall_2 ⟨(Nat.le_of_ble_eq_true rfl), (Nat.le_of_ble_eq_true rfl)⟩) hS (fun r u H locs hpo hW hS => ?_)
  obtain ⟨hr9, hu9⟩ := hpo; replace hu9 := hu9.symm; subst hu9; replace hr9 := hr9.symm; subst hr9
  refine lv_iconst (v := nI 1) hx hb dX5_onCall_5 (by decide) ?_
  refine lv_iconst (v := nI 1) hx hb dX5_onCall_6 (by decide) ?_
  refine k_ci (va_runV (As := [.int (nI 1), .int (nI 1), .int (nI 1)]) (rest := []) ⟨hx, hb, hml, hown, hts⟩ (c_X5_goes_0 l hlt g ad t ) (cwV 3 hts gX5_onCall_X5_goes rfl rfl rfl (by decide +kernel) ⟨(Nat.le_of_ble_eq_true rfl), (Nat.le_of_ble_eq_true rfl)⟩) ⟨k_blind, k_recv hK hW (kc_9 g ad t) rfl, fun U hU hw => ⟨rfl, k_I.of hK hZ hN hS hW hU hw⟩⟩ rfl rfl hl.1 rfl (lv_room (Nat.le_of_ble_eq_true rfl)) dX5_onCall_7 ⟨(Nat.le_of_ble_eq_true rfl), (Nat.le_of_ble_eq_true rfl)⟩) hS (fun r u H locs hpo hW hS => ?_)
  obtain ⟨hr9, hu9⟩ := hpo; replace hu9 := hu9.symm; subst hu9; replace hr9 := hr9.symm; subst hr9
  have hW : k_H g ad (set_m_l t 0) H := hW
  refine lv_if_eq (tgt := 22) hx hb dX5_onCall_10 (by decide) (fun h_10 => absurd h_10 (by decide)) (fun h_10 => ?_)
  refine lv_aload_n hx hb dX5_onCall_13 rfl (lv_at hl 0 rfl) ?_
  refine k_get (own := RX5) (C := RX5) (T := TX5) (N := 21) hx hb hts hinX5 hown hK hW (kc_9 g ad (set_m_l t 0)) rfl 19 (by decide) (hts (.fieldLink RX5 60 "DrillVaultModel" "rota" "[I") (by decide +kernel)) rfl (v := .ref (ad 23 0)) rfl dX5_onCall_14 ?_
  refine lv_iload_n hx hb dX5_onCall_17 rfl (lv_at hl 1 rfl) ?_
  refine k_iald hx hb hK hW (kc_23 g ad (set_m_l t 0)) j rfl (by omega) (by decide) dX5_onCall_18 ?_
  refine k_tov (y := .int (nI (m_rt t j))) rfl ?_
  refine lv_goto (tgt := 23) hx hb dX5_onCall_19 (by decide) ?_
  exact k_ri hQ hx hb hr hlk hS hW ⟨rfl, rfl⟩ (Nat.le_of_ble_eq_true rfl) (Nat.le_of_ble_eq_true rfl) dX5_onCall_23
abbrev rm_X5_isTwice : Room := { frames := 0, cells := 0, slots := 0, locals := 0 }
set_option maxRecDepth 100000 in
set_option maxHeartbeats 4000000 in
theorem c_X5_isTwice_0 (l : Launch) (hlt : l.stackTraces = false) (g : k_g) (ad : k_AD) (t : k_T) (hp : ∀ i, i < 365 → m_rt t i < 5) : Met l yX5_isTwice wsX5_isTwice rm_X5_isTwice (va_Pc [.ref (ad 9 0), .int (nI 0)] (k_I g (k_ct g ad t) ad)) (va_Qi (fun r u => r = kb (!(k_rest (m_rt t) 0)) ∧ u = t) (fun u U => k_H g ad u U.heap) (k_A g)) 0 0 (k_A g) := by
  refine k_met (cc := cX5_isTwice) (maxL := 2) (ret := (some .boolean)) (by decide) rfl (Nat.le_of_ble_eq_true rfl) (fun p e s m args below meth c Q ls hQ hx hb hr hml hts hown hlk hin hK hZ hN hW hS hl => ?_)
  have hown : s.vm.findClass RX5 = some m.cls := hown
  have hW : k_H g ad t s.heap := hW
  have hl : lv_has ls 2 [(0, .ref (ad 9 0)), (1, .int (nI 0))] := hl
  have hinX5 : ∀ w ∈ wsX50, w ∈ wsX5_isTwice := by decide +kernel
  refine lv_iload_n hx hb dX5_isTwice_0 rfl (lv_at hl 1 rfl) ?_
  refine lv_if_le (tgt := 21) hx hb dX5_isTwice_1 (by decide) (fun h_1 => ?_) (fun h_1 => absurd h_1 (by decide))
  refine lv_iload_n hx hb dX5_isTwice_21 rfl (lv_at hl 1 rfl) ?_
  refine lv_sipush (v := nI 364) hx hb dX5_isTwice_22 (by decide) ?_
  refine k_icmp_ge (tgt := 49) hx hb (a := 0) (b := 364) (by decide) (by decide) dX5_isTwice_25 (by decide) (fun h_25 => absurd h_25 (by omega)) (fun h_25 => ?_)
  refine lv_aload_n hx hb dX5_isTwice_28 rfl (lv_at hl 0 rfl) ?_
  refine k_get (own := RX5) (C := RX5) (T := TX5) (N := 21) hx hb hts hinX5 hown hK hW (kc_9 g ad t) rfl 19 (by decide) (hts (.fieldLink RX5 60 "DrillVaultModel" "rota" "[I") (by decide +kernel)) rfl (v := .ref (ad 23 0)) rfl dX5_isTwice_29 ?_
  refine lv_iload_n hx hb dX5_isTwice_32 rfl (lv_at hl 1 rfl) ?_
  refine lv_iconst (v := nI 1) hx hb dX5_isTwice_33 (by decide) ?_
  refine k_iadd hx hb dX5_isTwice_34 ?_
  refine k_iald hx hb hK hW (kc_23 g ad t) (0 + 1) rfl (by omega) (by decide) dX5_isTwice_35 ?_
  refine lv_aload_n hx hb dX5_isTwice_36 rfl (lv_at hl 0 rfl) ?_
  refine k_get (own := RX5) (C := RX5) (T := TX5) (N := 21) hx hb hts hinX5 hown hK hW (kc_9 g ad t) rfl 19 (by decide) (hts (.fieldLink RX5 60 "DrillVaultModel" "rota" "[I") (by decide +kernel)) rfl (v := .ref (ad 23 0)) rfl dX5_isTwice_37 ?_
  refine lv_iload_n hx hb dX5_isTwice_40 rfl (lv_at hl 1 rfl) ?_
  refine k_iald hx hb hK hW (kc_23 g ad t) 0 rfl (by omega) (by decide) dX5_isTwice_41 ?_
  refine k_icmp_ne (tgt := 49) hx hb (a := m_rt t (0 + 1)) (b := m_rt t 0) (by have := hp (0 + 1) (by omega); omega) (by have := hp (0) (by omega); omega) dX5_isTwice_42 (by decide) (fun h_42 => ?_) (fun h_42 => ?_)
  · refine lv_iconst (v := nI 0) hx hb dX5_isTwice_49 (by decide) ?_
    exact k_rz hQ hx hb hr rfl hlk hS hW ⟨by rw [k_rest_0, decide_eq_true (show m_rt t 0 ≠ m_rt t (0 + 1) from fun q => h_42 q.symm)]; rfl, rfl⟩ (Nat.le_of_ble_eq_true rfl) (Nat.le_of_ble_eq_true rfl) dX5_isTwice_50
  · refine lv_iconst (v := nI 1) hx hb dX5_isTwice_45 (by decide) ?_
    refine lv_goto (tgt := 50) hx hb dX5_isTwice_46 (by decide) ?_
    exact k_rz hQ hx hb hr rfl hlk hS hW ⟨by rw [k_rest_0, decide_eq_false (fun q => q h_42.symm)]; rfl, rfl⟩ (Nat.le_of_ble_eq_true rfl) (Nat.le_of_ble_eq_true rfl) dX5_isTwice_50
set_option maxRecDepth 100000 in
set_option maxHeartbeats 4000000 in
theorem c_X5_isTwice_m (l : Launch) (hlt : l.stackTraces = false) (g : k_g) (ad : k_AD) (t : k_T) (e0 : Nat) (he : e0 + 1 < 364) (hp : ∀ i, i < 365 → m_rt t i < 5) : Met l yX5_isTwice wsX5_isTwice rm_X5_isTwice (va_Pc [.ref (ad 9 0), .int (nI (e0 + 1))] (k_I g (k_ct g ad t) ad)) (va_Qi (fun r u => r = kb (!(k_rest (m_rt t) (e0 + 1))) ∧ u = t) (fun u U => k_H g ad u U.heap) (k_A g)) 0 0 (k_A g) := by
  refine k_met (cc := cX5_isTwice) (maxL := 2) (ret := (some .boolean)) (by decide) rfl (Nat.le_of_ble_eq_true rfl) (fun p e s m args below meth c Q ls hQ hx hb hr hml hts hown hlk hin hK hZ hN hW hS hl => ?_)
  have hown : s.vm.findClass RX5 = some m.cls := hown
  have hW : k_H g ad t s.heap := hW
  have hl : lv_has ls 2 [(0, .ref (ad 9 0)), (1, .int (nI (e0 + 1)))] := hl
  have hinX5 : ∀ w ∈ wsX50, w ∈ wsX5_isTwice := by decide +kernel
  refine lv_iload_n hx hb dX5_isTwice_0 rfl (lv_at hl 1 rfl) ?_
  refine k_if_le (tgt := 21) hx hb (by omega) dX5_isTwice_1 (by decide) (fun h_1 => absurd h_1 (by omega)) (fun h_1 => ?_)
  refine lv_aload_n hx hb dX5_isTwice_4 rfl (lv_at hl 0 rfl) ?_
  refine k_get (own := RX5) (C := RX5) (T := TX5) (N := 21) hx hb hts hinX5 hown hK hW (kc_9 g ad t) rfl 19 (by decide) (hts (.fieldLink RX5 60 "DrillVaultModel" "rota" "[I") (by decide +kernel)) rfl (v := .ref (ad 23 0)) rfl dX5_isTwice_5 ?_
  refine lv_iload_n hx hb dX5_isTwice_8 rfl (lv_at hl 1 rfl) ?_
  refine lv_iconst (v := nI 1) hx hb dX5_isTwice_9 (by decide) ?_
  refine k_isub hx hb (by omega) dX5_isTwice_10 ?_
  refine k_iald hx hb hK hW (kc_23 g ad t) ((e0 + 1) - 1) rfl (by omega) (by decide) dX5_isTwice_11 ?_
  refine lv_aload_n hx hb dX5_isTwice_12 rfl (lv_at hl 0 rfl) ?_
  refine k_get (own := RX5) (C := RX5) (T := TX5) (N := 21) hx hb hts hinX5 hown hK hW (kc_9 g ad t) rfl 19 (by decide) (hts (.fieldLink RX5 60 "DrillVaultModel" "rota" "[I") (by decide +kernel)) rfl (v := .ref (ad 23 0)) rfl dX5_isTwice_13 ?_
  refine lv_iload_n hx hb dX5_isTwice_16 rfl (lv_at hl 1 rfl) ?_
  refine k_iald hx hb hK hW (kc_23 g ad t) (e0 + 1) rfl (by omega) (by decide) dX5_isTwice_17 ?_
  refine k_icmp_eq (tgt := 45) hx hb (a := m_rt t ((e0 + 1) - 1)) (b := m_rt t (e0 + 1)) (by have := hp (e0 + 1 - 1) (by omega); omega) (by have := hp (e0 + 1) (by omega); omega) dX5_isTwice_18 (by decide) (fun h_18 => ?_) (fun h_18 => ?_)
  · refine lv_iconst (v := nI 1) hx hb dX5_isTwice_45 (by decide) ?_
    refine lv_goto (tgt := 50) hx hb dX5_isTwice_46 (by decide) ?_
    exact k_rz hQ hx hb hr rfl hlk hS hW ⟨by rw [k_rest_m _ he, decide_eq_false (show ¬ (m_rt t (e0 + 1) ≠ m_rt t (e0 + 1 - 1)) from fun q => q h_18.symm)]; rfl, rfl⟩ (Nat.le_of_ble_eq_true rfl) (Nat.le_of_ble_eq_true rfl) dX5_isTwice_50
  · refine lv_iload_n hx hb dX5_isTwice_21 rfl (lv_at hl 1 rfl) ?_
    refine lv_sipush (v := nI 364) hx hb dX5_isTwice_22 (by decide) ?_
    refine k_icmp_ge (tgt := 49) hx hb (a := e0 + 1) (b := 364) (by omega) (by decide) dX5_isTwice_25 (by decide) (fun h_25 => absurd h_25 (by omega)) (fun h_25 => ?_)
    refine lv_aload_n hx hb dX5_isTwice_28 rfl (lv_at hl 0 rfl) ?_
    refine k_get (own := RX5) (C := RX5) (T := TX5) (N := 21) hx hb hts hinX5 hown hK hW (kc_9 g ad t) rfl 19 (by decide) (hts (.fieldLink RX5 60 "DrillVaultModel" "rota" "[I") (by decide +kernel)) rfl (v := .ref (ad 23 0)) rfl dX5_isTwice_29 ?_
    refine lv_iload_n hx hb dX5_isTwice_32 rfl (lv_at hl 1 rfl) ?_
    refine lv_iconst (v := nI 1) hx hb dX5_isTwice_33 (by decide) ?_
    refine k_iadd hx hb dX5_isTwice_34 ?_
    refine k_iald hx hb hK hW (kc_23 g ad t) ((e0 + 1) + 1) rfl (by omega) (by decide) dX5_isTwice_35 ?_
    refine lv_aload_n hx hb dX5_isTwice_36 rfl (lv_at hl 0 rfl) ?_
    refine k_get (own := RX5) (C := RX5) (T := TX5) (N := 21) hx hb hts hinX5 hown hK hW (kc_9 g ad t) rfl 19 (by decide) (hts (.fieldLink RX5 60 "DrillVaultModel" "rota" "[I") (by decide +kernel)) rfl (v := .ref (ad 23 0)) rfl dX5_isTwice_37 ?_
    refine lv_iload_n hx hb dX5_isTwice_40 rfl (lv_at hl 1 rfl) ?_
    refine k_iald hx hb hK hW (kc_23 g ad t) (e0 + 1) rfl (by omega) (by decide) dX5_isTwice_41 ?_
    refine k_icmp_ne (tgt := 49) hx hb (a := m_rt t ((e0 + 1) + 1)) (b := m_rt t (e0 + 1)) (by have := hp (e0 + 1 + 1) (by omega); omega) (by have := hp (e0 + 1) (by omega); omega) dX5_isTwice_42 (by decide) (fun h_42 => ?_) (fun h_42 => ?_)
    · refine lv_iconst (v := nI 0) hx hb dX5_isTwice_49 (by decide) ?_
      exact k_rz hQ hx hb hr rfl hlk hS hW ⟨by rw [k_rest_m _ he, decide_eq_true (show m_rt t (e0 + 1) ≠ m_rt t (e0 + 1 - 1) from fun q => h_18 q.symm), decide_eq_true (show m_rt t (e0 + 1) ≠ m_rt t (e0 + 1 + 1) from fun q => h_42 q.symm)]; rfl, rfl⟩ (Nat.le_of_ble_eq_true rfl) (Nat.le_of_ble_eq_true rfl) dX5_isTwice_50
    · refine lv_iconst (v := nI 1) hx hb dX5_isTwice_45 (by decide) ?_
      refine lv_goto (tgt := 50) hx hb dX5_isTwice_46 (by decide) ?_
      exact k_rz hQ hx hb hr rfl hlk hS hW ⟨by rw [k_rest_m _ he, decide_eq_false (show ¬ (m_rt t (e0 + 1) ≠ m_rt t (e0 + 1 + 1)) from fun q => q h_42.symm), Bool.and_false]; rfl, rfl⟩ (Nat.le_of_ble_eq_true rfl) (Nat.le_of_ble_eq_true rfl) dX5_isTwice_50
set_option maxRecDepth 100000 in
set_option maxHeartbeats 4000000 in
theorem c_X5_isTwice_h (l : Launch) (hlt : l.stackTraces = false) (g : k_g) (ad : k_AD) (t : k_T) (hp : ∀ i, i < 365 → m_rt t i < 5) : Met l yX5_isTwice wsX5_isTwice rm_X5_isTwice (va_Pc [.ref (ad 9 0), .int (nI 364)] (k_I g (k_ct g ad t) ad)) (va_Qi (fun r u => r = kb (!(k_rest (m_rt t) 364)) ∧ u = t) (fun u U => k_H g ad u U.heap) (k_A g)) 0 0 (k_A g) := by
  refine k_met (cc := cX5_isTwice) (maxL := 2) (ret := (some .boolean)) (by decide) rfl (Nat.le_of_ble_eq_true rfl) (fun p e s m args below meth c Q ls hQ hx hb hr hml hts hown hlk hin hK hZ hN hW hS hl => ?_)
  have hown : s.vm.findClass RX5 = some m.cls := hown
  have hW : k_H g ad t s.heap := hW
  have hl : lv_has ls 2 [(0, .ref (ad 9 0)), (1, .int (nI 364))] := hl
  have hinX5 : ∀ w ∈ wsX50, w ∈ wsX5_isTwice := by decide +kernel
  refine lv_iload_n hx hb dX5_isTwice_0 rfl (lv_at hl 1 rfl) ?_
  refine lv_if_le (tgt := 21) hx hb dX5_isTwice_1 (by decide) (fun h_1 => absurd h_1 (by decide)) (fun h_1 => ?_)
  refine lv_aload_n hx hb dX5_isTwice_4 rfl (lv_at hl 0 rfl) ?_
  refine k_get (own := RX5) (C := RX5) (T := TX5) (N := 21) hx hb hts hinX5 hown hK hW (kc_9 g ad t) rfl 19 (by decide) (hts (.fieldLink RX5 60 "DrillVaultModel" "rota" "[I") (by decide +kernel)) rfl (v := .ref (ad 23 0)) rfl dX5_isTwice_5 ?_
  refine lv_iload_n hx hb dX5_isTwice_8 rfl (lv_at hl 1 rfl) ?_
  refine lv_iconst (v := nI 1) hx hb dX5_isTwice_9 (by decide) ?_
  refine k_isub hx hb (by decide) dX5_isTwice_10 ?_
  refine k_iald hx hb hK hW (kc_23 g ad t) (364 - 1) rfl (by omega) (by decide) dX5_isTwice_11 ?_
  refine lv_aload_n hx hb dX5_isTwice_12 rfl (lv_at hl 0 rfl) ?_
  refine k_get (own := RX5) (C := RX5) (T := TX5) (N := 21) hx hb hts hinX5 hown hK hW (kc_9 g ad t) rfl 19 (by decide) (hts (.fieldLink RX5 60 "DrillVaultModel" "rota" "[I") (by decide +kernel)) rfl (v := .ref (ad 23 0)) rfl dX5_isTwice_13 ?_
  refine lv_iload_n hx hb dX5_isTwice_16 rfl (lv_at hl 1 rfl) ?_
  refine k_iald hx hb hK hW (kc_23 g ad t) 364 rfl (by omega) (by decide) dX5_isTwice_17 ?_
  refine k_icmp_eq (tgt := 45) hx hb (a := m_rt t (364 - 1)) (b := m_rt t 364) (by have := hp (364 - 1) (by omega); omega) (by have := hp (364) (by omega); omega) dX5_isTwice_18 (by decide) (fun h_18 => ?_) (fun h_18 => ?_)
  · refine lv_iconst (v := nI 1) hx hb dX5_isTwice_45 (by decide) ?_
    refine lv_goto (tgt := 50) hx hb dX5_isTwice_46 (by decide) ?_
    exact k_rz hQ hx hb hr rfl hlk hS hW ⟨by rw [k_rest_h, decide_eq_false (fun q => q h_18.symm)]; rfl, rfl⟩ (Nat.le_of_ble_eq_true rfl) (Nat.le_of_ble_eq_true rfl) dX5_isTwice_50
  · refine lv_iload_n hx hb dX5_isTwice_21 rfl (lv_at hl 1 rfl) ?_
    refine lv_sipush (v := nI 364) hx hb dX5_isTwice_22 (by decide) ?_
    refine k_icmp_ge (tgt := 49) hx hb (a := 364) (b := 364) (by decide) (by decide) dX5_isTwice_25 (by decide) (fun h_25 => ?_) (fun h_25 => absurd h_25 (by omega))
    refine lv_iconst (v := nI 0) hx hb dX5_isTwice_49 (by decide) ?_
    exact k_rz hQ hx hb hr rfl hlk hS hW ⟨by rw [k_rest_h, decide_eq_true (show m_rt t 364 ≠ m_rt t (364 - 1) from fun q => h_18 q.symm)]; rfl, rfl⟩ (Nat.le_of_ble_eq_true rfl) (Nat.le_of_ble_eq_true rfl) dX5_isTwice_50
set_option maxRecDepth 100000 in
set_option maxHeartbeats 4000000 in
theorem c_X5_isTwice (l : Launch) (hlt : l.stackTraces = false) (g : k_g) (ad : k_AD) (t : k_T) (j : Nat) (hj : j < 365) (hp : ∀ i, i < 365 → m_rt t i < 5) : Met l yX5_isTwice wsX5_isTwice rm_X5_isTwice (va_Pc [.ref (ad 9 0), .int (nI j)] (k_I g (k_ct g ad t) ad)) (va_Qi (fun r u => r = kb (!(k_rest (m_rt t) j)) ∧ u = t) (fun u U => k_H g ad u U.heap) (k_A g)) 0 0 (k_A g) := by
  rcases Nat.eq_zero_or_pos j with h | h
  · subst h; exact c_X5_isTwice_0 l hlt g ad t hp
  · rcases Nat.lt_or_ge j 364 with h2 | h2
    · obtain ⟨e0, rfl⟩ : ∃ e0, j = e0 + 1 := ⟨j - 1, by omega⟩
      exact c_X5_isTwice_m l hlt g ad t e0 h2 hp
    · obtain rfl : j = 364 := by omega
      exact c_X5_isTwice_h l hlt g ad t hp
abbrev rm_X5_exchanges : Room := { frames := 0, cells := 0, slots := 0, locals := 0 }
set_option maxRecDepth 100000 in
set_option maxHeartbeats 4000000 in
theorem c_X5_exchanges (l : Launch) (hlt : l.stackTraces = false) (g : k_g) (ad : k_AD) (t : k_T) (j : Nat) (k : Nat) (hj : j < 365) (hk : k < 365) : Met l yX5_exchanges wsX5_exchanges rm_X5_exchanges (va_Pc [.ref (ad 9 0), .int (nI j), .int (nI k)] (k_I g (k_ct g ad t) ad)) (va_Qv (fun u => u = set_m_rt t (va_up (va_up (m_rt t) j (m_rt t k)) k (m_rt t j))) (fun u U => k_H g ad u U.heap) (k_A g)) 0 0 (k_A g) := by
  refine k_met (cc := cX5_exchanges) (maxL := 4) (ret := none) (by decide) rfl (Nat.le_of_ble_eq_true rfl) (fun p e s m args below meth c Q ls hQ hx hb hr hml hts hown hlk hin hK hZ hN hW hS hl => ?_)
  have hown : s.vm.findClass RX5 = some m.cls := hown
  have hW : k_H g ad t s.heap := hW
  have hl : lv_has ls 4 [(0, .ref (ad 9 0)), (1, .int (nI j)), (2, .int (nI k))] := hl
  have hinX5 : ∀ w ∈ wsX50, w ∈ wsX5_exchanges := by decide +kernel
  refine lv_aload_n hx hb dX5_exchanges_0 rfl (lv_at hl 0 rfl) ?_
  refine k_get (own := RX5) (C := RX5) (T := TX5) (N := 21) hx hb hts hinX5 hown hK hW (kc_9 g ad t) rfl 19 (by decide) (hts (.fieldLink RX5 60 "DrillVaultModel" "rota" "[I") (by decide +kernel)) rfl (v := .ref (ad 23 0)) rfl dX5_exchanges_1 ?_
  refine lv_iload_n hx hb dX5_exchanges_4 rfl (lv_at hl 1 rfl) ?_
  refine k_iald hx hb hK hW (kc_23 g ad t) j rfl (by omega) (by decide) dX5_exchanges_5 ?_
  refine lv_istore_n (lv' := [(3, .int (nI (m_rt t j))), (0, .ref (ad 9 0)), (1, .int (nI j)), (2, .int (nI k))]) hx hb dX5_exchanges_6 rfl hl (by decide) rfl (fun ls hl => ?_)
  refine lv_aload_n hx hb dX5_exchanges_7 rfl (lv_at hl 1 rfl) ?_
  refine k_get (own := RX5) (C := RX5) (T := TX5) (N := 21) hx hb hts hinX5 hown hK hW (kc_9 g ad t) rfl 19 (by decide) (hts (.fieldLink RX5 60 "DrillVaultModel" "rota" "[I") (by decide +kernel)) rfl (v := .ref (ad 23 0)) rfl dX5_exchanges_8 ?_
  refine lv_iload_n hx hb dX5_exchanges_11 rfl (lv_at hl 2 rfl) ?_
  refine lv_aload_n hx hb dX5_exchanges_12 rfl (lv_at hl 1 rfl) ?_
  refine k_get (own := RX5) (C := RX5) (T := TX5) (N := 21) hx hb hts hinX5 hown hK hW (kc_9 g ad t) rfl 19 (by decide) (hts (.fieldLink RX5 60 "DrillVaultModel" "rota" "[I") (by decide +kernel)) rfl (v := .ref (ad 23 0)) rfl dX5_exchanges_13 ?_
  refine lv_iload_n hx hb dX5_exchanges_16 rfl (lv_at hl 3 rfl) ?_
  refine k_iald hx hb hK hW (kc_23 g ad t) k rfl (by omega) (by decide) dX5_exchanges_17 ?_
  refine k_iast hx hb hK hW hS (kc_23 g ad t) j rfl (by omega) (by decide) dX5_exchanges_18 (fun H locs hW hS => ?_)
  have hW : k_H g ad (set_m_rt t (va_up (m_rt t) j (m_rt t k))) H := kt_m_rt (t := t) j (m_rt t k) rfl hW
  refine lv_aload_n hx hb dX5_exchanges_19 rfl (lv_at hl 1 rfl) ?_
  refine k_get (own := RX5) (C := RX5) (T := TX5) (N := 21) hx hb hts hinX5 hown hK hW (kc_9 g ad (set_m_rt t (va_up (m_rt t) j (m_rt t k)))) rfl 19 (by decide) (hts (.fieldLink RX5 60 "DrillVaultModel" "rota" "[I") (by decide +kernel)) rfl (v := .ref (ad 23 0)) rfl dX5_exchanges_20 ?_
  refine lv_iload_n hx hb dX5_exchanges_23 rfl (lv_at hl 3 rfl) ?_
  refine lv_iload_n hx hb dX5_exchanges_24 rfl (lv_at hl 0 rfl) ?_
  refine k_iast hx hb hK hW hS (kc_23 g ad (set_m_rt t (va_up (m_rt t) j (m_rt t k)))) k rfl (by omega) (by decide) dX5_exchanges_25 (fun H locs hW hS => ?_)
  have hW : k_H g ad (set_m_rt t (va_up (va_up (m_rt t) j (m_rt t k)) k (m_rt t j))) H := kt_m_rt (t := set_m_rt t (va_up (m_rt t) j (m_rt t k))) k (m_rt t j) rfl hW
  exact k_rv hQ hx hb hr hlk hS hW rfl (Nat.le_of_ble_eq_true rfl) (Nat.le_of_ble_eq_true rfl) dX5_exchanges_26
abbrev rm_X5_swap : Room := { frames := 1, cells := 0, slots := 0, locals := 23 }
set_option maxRecDepth 100000 in
set_option maxHeartbeats 4000000 in
theorem c_X5_swap_b1 (l : Launch) (hlt : l.stackTraces = false) (g : k_g) (ad : k_AD) (t : k_T) (z : Int32) (y : Int32) (hz : z < nI (m_d t) ∨ nI 364 < z) : Met l yX5_swap wsX5_swap rm_X5_swap (va_Pc [.ref (ad 9 0), .int z, .int y] (k_I g (k_ct g ad t) ad)) (va_Qi (fun r u => r = nI 0 ∧ u = set_m_l t 1) (fun u U => k_H g ad u U.heap) (k_A g)) 0 0 (k_A g) := by
  refine k_met (cc := cX5_swap) (maxL := 5) (ret := (some .int)) (by decide) rfl (Nat.le_of_ble_eq_true rfl) (fun p e s m args below meth c Q ls hQ hx hb hr hml hts hown hlk hin hK hZ hN hW hS hl => ?_)
  have hown : s.vm.findClass RX5 = some m.cls := hown
  have hW : k_H g ad t s.heap := hW
  have hl : lv_has ls 5 [(0, .ref (ad 9 0)), (1, .int z), (2, .int y)] := hl
  have hinX5 : ∀ w ∈ wsX50, w ∈ wsX5_swap := by decide +kernel
  refine lv_iload_n hx hb dX5_swap_0 rfl (lv_at hl 1 rfl) ?_
  refine lv_aload_n hx hb dX5_swap_1 rfl (lv_at hl 0 rfl) ?_
  refine k_get (own := RX5) (C := RX5) (T := TX5) (N := 21) hx hb hts hinX5 hown hK hW (kc_9 g ad t) rfl 3 (by decide) (hts (.fieldLink RX5 84 "DrillVaultModel" "day" "I") (by decide +kernel)) rfl (v := .int (nI (m_d t))) rfl dX5_swap_2 ?_
  refine lv_sipush (v := nI 364) hx hb dX5_swap_5 (by decide) ?_
  refine k_ci (va_runS (As := [.int z, .int (nI (m_d t)), .int (nI 364)]) (rest := []) ⟨hx, hb, hml, hown, hts⟩ (c_X5_in_f l hlt g ad t z (nI (m_d t)) (nI 364) (k_in_f hz)) (va_cwS 3 hts gX5_swap_X5_in rfl rfl rfl (by decide +kernel) ⟨(Nat.le_of_ble_eq_true rfl), (Nat.le_of_ble_eq_true rfl)⟩) ⟨k_blind, fun U hU hw => ⟨rfl, k_I.of hK hZ hN hS hW hU hw⟩⟩ rfl rfl hl.1 rfl (lv_room (Nat.le_of_ble_eq_true rfl)) dX5_swap_8 ⟨(Nat.le_of_ble_eq_true rfl), (Nat.le_of_ble_eq_true rfl)⟩) hS (fun r u H locs hpo hW hS => ?_)
  obtain ⟨hr9, hu9⟩ := hpo; replace hu9 := hu9.symm; subst hu9; replace hr9 := hr9.symm; subst hr9
  refine lv_if_eq (tgt := 37) hx hb dX5_swap_11 (by decide) (fun h_11 => ?_) (fun h_11 => absurd h_11 (by decide))
  refine lv_iconst (v := nI 0) hx hb dX5_swap_37 (by decide) ?_
  refine lv_istore_n (lv' := [(3, .int (nI 0)), (0, .ref (ad 9 0)), (1, .int z), (2, .int y)]) hx hb dX5_swap_38 rfl hl (by decide) rfl (fun ls hl => ?_)
  refine lv_iconst (v := nI 0) hx hb dX5_swap_39 (by decide) ?_
  refine lv_istore (lv' := [(4, .int (nI 0)), (3, .int (nI 0)), (0, .ref (ad 9 0)), (1, .int z), (2, .int y)]) hx hb dX5_swap_40 hl (by decide) rfl (fun ls hl => ?_)
  refine lv_iload_n hx hb dX5_swap_42 rfl (lv_at hl 1 rfl) ?_
  refine lv_if_eq (tgt := 86) hx hb dX5_swap_43 (by decide) (fun h_43 => ?_) (fun h_43 => absurd h_43 (by decide))
  refine lv_aload_n hx hb dX5_swap_86 rfl (lv_at hl 2 rfl) ?_
  refine lv_iload_n hx hb dX5_swap_87 rfl (lv_at hl 1 rfl) ?_
  refine lv_iload hx hb dX5_swap_88 (lv_at hl 0 rfl) ?_
  refine lv_iconst (v := nI 1) hx hb dX5_swap_90 (by decide) ?_
  refine k_ci (va_runV (As := [.int (nI 0), .int (nI 0), .int (nI 1)]) (rest := []) ⟨hx, hb, hml, hown, hts⟩ (c_X5_goes_1 l hlt g ad t (nI 0) (nI 1) ) (cwV 3 hts gX5_swap_X5_goes rfl rfl rfl (by decide +kernel) ⟨(Nat.le_of_ble_eq_true rfl), (Nat.le_of_ble_eq_true rfl)⟩) ⟨k_blind, k_recv hK hW (kc_9 g ad t) rfl, fun U hU hw => ⟨rfl, k_I.of hK hZ hN hS hW hU hw⟩⟩ rfl rfl hl.1 rfl (lv_room (Nat.le_of_ble_eq_true rfl)) dX5_swap_91 ⟨(Nat.le_of_ble_eq_true rfl), (Nat.le_of_ble_eq_true rfl)⟩) hS (fun r u H locs hpo hW hS => ?_)
  obtain ⟨hr9, hu9⟩ := hpo; replace hu9 := hu9.symm; subst hu9; replace hr9 := hr9.symm; subst hr9
  have hW : k_H g ad (set_m_l t 1) H := hW
  refine lv_if_eq (tgt := 106) hx hb dX5_swap_94 (by decide) (fun h_94 => ?_) (fun h_94 => absurd h_94 (by decide))
  refine lv_iconst (v := nI 0) hx hb dX5_swap_106 (by decide) ?_
  exact k_ri hQ hx hb hr hlk hS hW ⟨rfl, rfl⟩ (Nat.le_of_ble_eq_true rfl) (Nat.le_of_ble_eq_true rfl) dX5_swap_107
set_option maxRecDepth 100000 in
set_option maxHeartbeats 4000000 in
theorem c_X5_swap_b2 (l : Launch) (hlt : l.stackTraces = false) (g : k_g) (ad : k_AD) (t : k_T) (j : Nat) (z : Int32) (h1 : m_d t ≤ j) (h2 : j ≤ 364) (hz : z < nI (m_d t) ∨ nI 364 < z) : Met l yX5_swap wsX5_swap rm_X5_swap (va_Pc [.ref (ad 9 0), .int (nI j), .int z] (k_I g (k_ct g ad t) ad)) (va_Qi (fun r u => r = nI 0 ∧ u = set_m_l t 1) (fun u U => k_H g ad u U.heap) (k_A g)) 0 0 (k_A g) := by
  refine k_met (cc := cX5_swap) (maxL := 5) (ret := (some .int)) (by decide) rfl (Nat.le_of_ble_eq_true rfl) (fun p e s m args below meth c Q ls hQ hx hb hr hml hts hown hlk hin hK hZ hN hW hS hl => ?_)
  have hown : s.vm.findClass RX5 = some m.cls := hown
  have hW : k_H g ad t s.heap := hW
  have hl : lv_has ls 5 [(0, .ref (ad 9 0)), (1, .int (nI j)), (2, .int z)] := hl
  have hinX5 : ∀ w ∈ wsX50, w ∈ wsX5_swap := by decide +kernel
  refine lv_iload_n hx hb dX5_swap_0 rfl (lv_at hl 1 rfl) ?_
  refine lv_aload_n hx hb dX5_swap_1 rfl (lv_at hl 0 rfl) ?_
  refine k_get (own := RX5) (C := RX5) (T := TX5) (N := 21) hx hb hts hinX5 hown hK hW (kc_9 g ad t) rfl 3 (by decide) (hts (.fieldLink RX5 84 "DrillVaultModel" "day" "I") (by decide +kernel)) rfl (v := .int (nI (m_d t))) rfl dX5_swap_2 ?_
  refine lv_sipush (v := nI 364) hx hb dX5_swap_5 (by decide) ?_
  refine k_ci (va_runS (As := [.int (nI j), .int (nI (m_d t)), .int (nI 364)]) (rest := []) ⟨hx, hb, hml, hown, hts⟩ (c_X5_in_t l hlt g ad t (nI j) (nI (m_d t)) (nI 364) (k_in_n h1 h2 (by decide))) (va_cwS 3 hts gX5_swap_X5_in rfl rfl rfl (by decide +kernel) ⟨(Nat.le_of_ble_eq_true rfl), (Nat.le_of_ble_eq_true rfl)⟩) ⟨k_blind, fun U hU hw => ⟨rfl, k_I.of hK hZ hN hS hW hU hw⟩⟩ rfl rfl hl.1 rfl (lv_room (Nat.le_of_ble_eq_true rfl)) dX5_swap_8 ⟨(Nat.le_of_ble_eq_true rfl), (Nat.le_of_ble_eq_true rfl)⟩) hS (fun r u H locs hpo hW hS => ?_)
  obtain ⟨hr9, hu9⟩ := hpo; replace hu9 := hu9.symm; subst hu9; replace hr9 := hr9.symm; subst hr9
  refine lv_if_eq (tgt := 37) hx hb dX5_swap_11 (by decide) (fun h_11 => absurd h_11 (by decide)) (fun h_11 => ?_)
  refine lv_iload_n hx hb dX5_swap_14 rfl (lv_at hl 2 rfl) ?_
  refine lv_aload_n hx hb dX5_swap_15 rfl (lv_at hl 0 rfl) ?_
  refine k_get (own := RX5) (C := RX5) (T := TX5) (N := 21) hx hb hts hinX5 hown hK hW (kc_9 g ad t) rfl 3 (by decide) (hts (.fieldLink RX5 84 "DrillVaultModel" "day" "I") (by decide +kernel)) rfl (v := .int (nI (m_d t))) rfl dX5_swap_16 ?_
  refine lv_sipush (v := nI 364) hx hb dX5_swap_19 (by decide) ?_
  refine k_ci (va_runS (As := [.int z, .int (nI (m_d t)), .int (nI 364)]) (rest := []) ⟨hx, hb, hml, hown, hts⟩ (c_X5_in_f l hlt g ad t z (nI (m_d t)) (nI 364) (k_in_f hz)) (va_cwS 3 hts gX5_swap_X5_in rfl rfl rfl (by decide +kernel) ⟨(Nat.le_of_ble_eq_true rfl), (Nat.le_of_ble_eq_true rfl)⟩) ⟨k_blind, fun U hU hw => ⟨rfl, k_I.of hK hZ hN hS hW hU hw⟩⟩ rfl rfl hl.1 rfl (lv_room (Nat.le_of_ble_eq_true rfl)) dX5_swap_22 ⟨(Nat.le_of_ble_eq_true rfl), (Nat.le_of_ble_eq_true rfl)⟩) hS (fun r u H locs hpo hW hS => ?_)
  obtain ⟨hr9, hu9⟩ := hpo; replace hu9 := hu9.symm; subst hu9; replace hr9 := hr9.symm; subst hr9
  refine lv_if_eq (tgt := 37) hx hb dX5_swap_25 (by decide) (fun h_25 => ?_) (fun h_25 => absurd h_25 (by decide))
  refine lv_iconst (v := nI 0) hx hb dX5_swap_37 (by decide) ?_
  refine lv_istore_n (lv' := [(3, .int (nI 0)), (0, .ref (ad 9 0)), (1, .int (nI j)), (2, .int z)]) hx hb dX5_swap_38 rfl hl (by decide) rfl (fun ls hl => ?_)
  refine lv_iconst (v := nI 0) hx hb dX5_swap_39 (by decide) ?_
  refine lv_istore (lv' := [(4, .int (nI 0)), (3, .int (nI 0)), (0, .ref (ad 9 0)), (1, .int (nI j)), (2, .int z)]) hx hb dX5_swap_40 hl (by decide) rfl (fun ls hl => ?_)
  refine lv_iload_n hx hb dX5_swap_42 rfl (lv_at hl 1 rfl) ?_
  refine lv_if_eq (tgt := 86) hx hb dX5_swap_43 (by decide) (fun h_43 => ?_) (fun h_43 => absurd h_43 (by decide))
  refine lv_aload_n hx hb dX5_swap_86 rfl (lv_at hl 2 rfl) ?_
  refine lv_iload_n hx hb dX5_swap_87 rfl (lv_at hl 1 rfl) ?_
  refine lv_iload hx hb dX5_swap_88 (lv_at hl 0 rfl) ?_
  refine lv_iconst (v := nI 1) hx hb dX5_swap_90 (by decide) ?_
  refine k_ci (va_runV (As := [.int (nI 0), .int (nI 0), .int (nI 1)]) (rest := []) ⟨hx, hb, hml, hown, hts⟩ (c_X5_goes_1 l hlt g ad t (nI 0) (nI 1) ) (cwV 3 hts gX5_swap_X5_goes rfl rfl rfl (by decide +kernel) ⟨(Nat.le_of_ble_eq_true rfl), (Nat.le_of_ble_eq_true rfl)⟩) ⟨k_blind, k_recv hK hW (kc_9 g ad t) rfl, fun U hU hw => ⟨rfl, k_I.of hK hZ hN hS hW hU hw⟩⟩ rfl rfl hl.1 rfl (lv_room (Nat.le_of_ble_eq_true rfl)) dX5_swap_91 ⟨(Nat.le_of_ble_eq_true rfl), (Nat.le_of_ble_eq_true rfl)⟩) hS (fun r u H locs hpo hW hS => ?_)
  obtain ⟨hr9, hu9⟩ := hpo; replace hu9 := hu9.symm; subst hu9; replace hr9 := hr9.symm; subst hr9
  have hW : k_H g ad (set_m_l t 1) H := hW
  refine lv_if_eq (tgt := 106) hx hb dX5_swap_94 (by decide) (fun h_94 => ?_) (fun h_94 => absurd h_94 (by decide))
  refine lv_iconst (v := nI 0) hx hb dX5_swap_106 (by decide) ?_
  exact k_ri hQ hx hb hr hlk hS hW ⟨rfl, rfl⟩ (Nat.le_of_ble_eq_true rfl) (Nat.le_of_ble_eq_true rfl) dX5_swap_107
set_option maxRecDepth 100000 in
set_option maxHeartbeats 4000000 in
theorem c_X5_swap_b3 (l : Launch) (hlt : l.stackTraces = false) (g : k_g) (ad : k_AD) (t : k_T) (j : Nat) (h1 : m_d t ≤ j) (h2 : j ≤ 364) : Met l yX5_swap wsX5_swap rm_X5_swap (va_Pc [.ref (ad 9 0), .int (nI j), .int (nI j)] (k_I g (k_ct g ad t) ad)) (va_Qi (fun r u => r = nI 0 ∧ u = set_m_l t 1) (fun u U => k_H g ad u U.heap) (k_A g)) 0 0 (k_A g) := by
  refine k_met (cc := cX5_swap) (maxL := 5) (ret := (some .int)) (by decide) rfl (Nat.le_of_ble_eq_true rfl) (fun p e s m args below meth c Q ls hQ hx hb hr hml hts hown hlk hin hK hZ hN hW hS hl => ?_)
  have hown : s.vm.findClass RX5 = some m.cls := hown
  have hW : k_H g ad t s.heap := hW
  have hl : lv_has ls 5 [(0, .ref (ad 9 0)), (1, .int (nI j)), (2, .int (nI j))] := hl
  have hinX5 : ∀ w ∈ wsX50, w ∈ wsX5_swap := by decide +kernel
  refine lv_iload_n hx hb dX5_swap_0 rfl (lv_at hl 1 rfl) ?_
  refine lv_aload_n hx hb dX5_swap_1 rfl (lv_at hl 0 rfl) ?_
  refine k_get (own := RX5) (C := RX5) (T := TX5) (N := 21) hx hb hts hinX5 hown hK hW (kc_9 g ad t) rfl 3 (by decide) (hts (.fieldLink RX5 84 "DrillVaultModel" "day" "I") (by decide +kernel)) rfl (v := .int (nI (m_d t))) rfl dX5_swap_2 ?_
  refine lv_sipush (v := nI 364) hx hb dX5_swap_5 (by decide) ?_
  refine k_ci (va_runS (As := [.int (nI j), .int (nI (m_d t)), .int (nI 364)]) (rest := []) ⟨hx, hb, hml, hown, hts⟩ (c_X5_in_t l hlt g ad t (nI j) (nI (m_d t)) (nI 364) (k_in_n h1 h2 (by decide))) (va_cwS 3 hts gX5_swap_X5_in rfl rfl rfl (by decide +kernel) ⟨(Nat.le_of_ble_eq_true rfl), (Nat.le_of_ble_eq_true rfl)⟩) ⟨k_blind, fun U hU hw => ⟨rfl, k_I.of hK hZ hN hS hW hU hw⟩⟩ rfl rfl hl.1 rfl (lv_room (Nat.le_of_ble_eq_true rfl)) dX5_swap_8 ⟨(Nat.le_of_ble_eq_true rfl), (Nat.le_of_ble_eq_true rfl)⟩) hS (fun r u H locs hpo hW hS => ?_)
  obtain ⟨hr9, hu9⟩ := hpo; replace hu9 := hu9.symm; subst hu9; replace hr9 := hr9.symm; subst hr9
  refine lv_if_eq (tgt := 37) hx hb dX5_swap_11 (by decide) (fun h_11 => absurd h_11 (by decide)) (fun h_11 => ?_)
  refine lv_iload_n hx hb dX5_swap_14 rfl (lv_at hl 2 rfl) ?_
  refine lv_aload_n hx hb dX5_swap_15 rfl (lv_at hl 0 rfl) ?_
  refine k_get (own := RX5) (C := RX5) (T := TX5) (N := 21) hx hb hts hinX5 hown hK hW (kc_9 g ad t) rfl 3 (by decide) (hts (.fieldLink RX5 84 "DrillVaultModel" "day" "I") (by decide +kernel)) rfl (v := .int (nI (m_d t))) rfl dX5_swap_16 ?_
  refine lv_sipush (v := nI 364) hx hb dX5_swap_19 (by decide) ?_
  refine k_ci (va_runS (As := [.int (nI j), .int (nI (m_d t)), .int (nI 364)]) (rest := []) ⟨hx, hb, hml, hown, hts⟩ (c_X5_in_t l hlt g ad t (nI j) (nI (m_d t)) (nI 364) (k_in_n h1 h2 (by decide))) (va_cwS 3 hts gX5_swap_X5_in rfl rfl rfl (by decide +kernel) ⟨(Nat.le_of_ble_eq_true rfl), (Nat.le_of_ble_eq_true rfl)⟩) ⟨k_blind, fun U hU hw => ⟨rfl, k_I.of hK hZ hN hS hW hU hw⟩⟩ rfl rfl hl.1 rfl (lv_room (Nat.le_of_ble_eq_true rfl)) dX5_swap_22 ⟨(Nat.le_of_ble_eq_true rfl), (Nat.le_of_ble_eq_true rfl)⟩) hS (fun r u H locs hpo hW hS => ?_)
  obtain ⟨hr9, hu9⟩ := hpo; replace hu9 := hu9.symm; subst hu9; replace hr9 := hr9.symm; subst hr9
  refine lv_if_eq (tgt := 37) hx hb dX5_swap_25 (by decide) (fun h_25 => absurd h_25 (by decide)) (fun h_25 => ?_)
  refine lv_iload_n hx hb dX5_swap_28 rfl (lv_at hl 1 rfl) ?_
  refine lv_iload_n hx hb dX5_swap_29 rfl (lv_at hl 2 rfl) ?_
  refine k_icmp_eq (tgt := 37) hx hb (a := j) (b := j) (by omega) (by omega) dX5_swap_30 (by decide) (fun h_30 => ?_) (fun h_30 => absurd h_30 (fun q => q rfl))
  refine lv_iconst (v := nI 0) hx hb dX5_swap_37 (by decide) ?_
  refine lv_istore_n (lv' := [(3, .int (nI 0)), (0, .ref (ad 9 0)), (1, .int (nI j)), (2, .int (nI j))]) hx hb dX5_swap_38 rfl hl (by decide) rfl (fun ls hl => ?_)
  refine lv_iconst (v := nI 0) hx hb dX5_swap_39 (by decide) ?_
  refine lv_istore (lv' := [(4, .int (nI 0)), (3, .int (nI 0)), (0, .ref (ad 9 0)), (1, .int (nI j)), (2, .int (nI j))]) hx hb dX5_swap_40 hl (by decide) rfl (fun ls hl => ?_)
  refine lv_iload_n hx hb dX5_swap_42 rfl (lv_at hl 1 rfl) ?_
  refine lv_if_eq (tgt := 86) hx hb dX5_swap_43 (by decide) (fun h_43 => ?_) (fun h_43 => absurd h_43 (by decide))
  refine lv_aload_n hx hb dX5_swap_86 rfl (lv_at hl 2 rfl) ?_
  refine lv_iload_n hx hb dX5_swap_87 rfl (lv_at hl 1 rfl) ?_
  refine lv_iload hx hb dX5_swap_88 (lv_at hl 0 rfl) ?_
  refine lv_iconst (v := nI 1) hx hb dX5_swap_90 (by decide) ?_
  refine k_ci (va_runV (As := [.int (nI 0), .int (nI 0), .int (nI 1)]) (rest := []) ⟨hx, hb, hml, hown, hts⟩ (c_X5_goes_1 l hlt g ad t (nI 0) (nI 1) ) (cwV 3 hts gX5_swap_X5_goes rfl rfl rfl (by decide +kernel) ⟨(Nat.le_of_ble_eq_true rfl), (Nat.le_of_ble_eq_true rfl)⟩) ⟨k_blind, k_recv hK hW (kc_9 g ad t) rfl, fun U hU hw => ⟨rfl, k_I.of hK hZ hN hS hW hU hw⟩⟩ rfl rfl hl.1 rfl (lv_room (Nat.le_of_ble_eq_true rfl)) dX5_swap_91 ⟨(Nat.le_of_ble_eq_true rfl), (Nat.le_of_ble_eq_true rfl)⟩) hS (fun r u H locs hpo hW hS => ?_)
  obtain ⟨hr9, hu9⟩ := hpo; replace hu9 := hu9.symm; subst hu9; replace hr9 := hr9.symm; subst hr9
  have hW : k_H g ad (set_m_l t 1) H := hW
  refine lv_if_eq (tgt := 106) hx hb dX5_swap_94 (by decide) (fun h_94 => ?_) (fun h_94 => absurd h_94 (by decide))
  refine lv_iconst (v := nI 0) hx hb dX5_swap_106 (by decide) ?_
  exact k_ri hQ hx hb hr hlk hS hW ⟨rfl, rfl⟩ (Nat.le_of_ble_eq_true rfl) (Nat.le_of_ble_eq_true rfl) dX5_swap_107
set_option maxRecDepth 100000 in
set_option maxHeartbeats 4000000 in
theorem c_X5_swap_is (l : Launch) (hlt : l.stackTraces = false) (g : k_g) (ad : k_AD) (t : k_T) (j : Nat) (k : Nat) (h1 : m_d t ≤ j) (h2 : j ≤ 364) (h3 : m_d t ≤ k) (h4 : k ≤ 364) (hne : j ≠ k) (hp : ∀ i, i < 365 → m_rt t i < 5) (hno : (k_rest (k_ex (m_rt t) j k) j && k_rest (k_ex (m_rt t) j k) k) = false) : Met l yX5_swap wsX5_swap rm_X5_swap (va_Pc [.ref (ad 9 0), .int (nI j), .int (nI k)] (k_I g (k_ct g ad t) ad)) (va_Qi (fun r u => r = nI 0 ∧ u = set_m_l t 2) (fun u U => k_H g ad u U.heap) (k_A g)) 0 0 (k_A g) := by
  refine k_met (cc := cX5_swap) (maxL := 5) (ret := (some .int)) (by decide) rfl (Nat.le_of_ble_eq_true rfl) (fun p e s m args below meth c Q ls hQ hx hb hr hml hts hown hlk hin hK hZ hN hW hS hl => ?_)
  have hown : s.vm.findClass RX5 = some m.cls := hown
  have hW : k_H g ad t s.heap := hW
  have hl : lv_has ls 5 [(0, .ref (ad 9 0)), (1, .int (nI j)), (2, .int (nI k))] := hl
  have hinX5 : ∀ w ∈ wsX50, w ∈ wsX5_swap := by decide +kernel
  refine lv_iload_n hx hb dX5_swap_0 rfl (lv_at hl 1 rfl) ?_
  refine lv_aload_n hx hb dX5_swap_1 rfl (lv_at hl 0 rfl) ?_
  refine k_get (own := RX5) (C := RX5) (T := TX5) (N := 21) hx hb hts hinX5 hown hK hW (kc_9 g ad t) rfl 3 (by decide) (hts (.fieldLink RX5 84 "DrillVaultModel" "day" "I") (by decide +kernel)) rfl (v := .int (nI (m_d t))) rfl dX5_swap_2 ?_
  refine lv_sipush (v := nI 364) hx hb dX5_swap_5 (by decide) ?_
  refine k_ci (va_runS (As := [.int (nI j), .int (nI (m_d t)), .int (nI 364)]) (rest := []) ⟨hx, hb, hml, hown, hts⟩ (c_X5_in_t l hlt g ad t (nI j) (nI (m_d t)) (nI 364) (k_in_n h1 h2 (by decide))) (va_cwS 3 hts gX5_swap_X5_in rfl rfl rfl (by decide +kernel) ⟨(Nat.le_of_ble_eq_true rfl), (Nat.le_of_ble_eq_true rfl)⟩) ⟨k_blind, fun U hU hw => ⟨rfl, k_I.of hK hZ hN hS hW hU hw⟩⟩ rfl rfl hl.1 rfl (lv_room (Nat.le_of_ble_eq_true rfl)) dX5_swap_8 ⟨(Nat.le_of_ble_eq_true rfl), (Nat.le_of_ble_eq_true rfl)⟩) hS (fun r u H locs hpo hW hS => ?_)
  obtain ⟨hr9, hu9⟩ := hpo; replace hu9 := hu9.symm; subst hu9; replace hr9 := hr9.symm; subst hr9
  refine lv_if_eq (tgt := 37) hx hb dX5_swap_11 (by decide) (fun h_11 => absurd h_11 (by decide)) (fun h_11 => ?_)
  refine lv_iload_n hx hb dX5_swap_14 rfl (lv_at hl 2 rfl) ?_
  refine lv_aload_n hx hb dX5_swap_15 rfl (lv_at hl 0 rfl) ?_
  refine k_get (own := RX5) (C := RX5) (T := TX5) (N := 21) hx hb hts hinX5 hown hK hW (kc_9 g ad t) rfl 3 (by decide) (hts (.fieldLink RX5 84 "DrillVaultModel" "day" "I") (by decide +kernel)) rfl (v := .int (nI (m_d t))) rfl dX5_swap_16 ?_
  refine lv_sipush (v := nI 364) hx hb dX5_swap_19 (by decide) ?_
  refine k_ci (va_runS (As := [.int (nI k), .int (nI (m_d t)), .int (nI 364)]) (rest := []) ⟨hx, hb, hml, hown, hts⟩ (c_X5_in_t l hlt g ad t (nI k) (nI (m_d t)) (nI 364) (k_in_n h3 h4 (by decide))) (va_cwS 3 hts gX5_swap_X5_in rfl rfl rfl (by decide +kernel) ⟨(Nat.le_of_ble_eq_true rfl), (Nat.le_of_ble_eq_true rfl)⟩) ⟨k_blind, fun U hU hw => ⟨rfl, k_I.of hK hZ hN hS hW hU hw⟩⟩ rfl rfl hl.1 rfl (lv_room (Nat.le_of_ble_eq_true rfl)) dX5_swap_22 ⟨(Nat.le_of_ble_eq_true rfl), (Nat.le_of_ble_eq_true rfl)⟩) hS (fun r u H locs hpo hW hS => ?_)
  obtain ⟨hr9, hu9⟩ := hpo; replace hu9 := hu9.symm; subst hu9; replace hr9 := hr9.symm; subst hr9
  refine lv_if_eq (tgt := 37) hx hb dX5_swap_25 (by decide) (fun h_25 => absurd h_25 (by decide)) (fun h_25 => ?_)
  refine lv_iload_n hx hb dX5_swap_28 rfl (lv_at hl 1 rfl) ?_
  refine lv_iload_n hx hb dX5_swap_29 rfl (lv_at hl 2 rfl) ?_
  refine k_icmp_eq (tgt := 37) hx hb (a := j) (b := k) (by omega) (by omega) dX5_swap_30 (by decide) (fun h_30 => absurd h_30 (by omega)) (fun h_30 => ?_)
  refine lv_iconst (v := nI 1) hx hb dX5_swap_33 (by decide) ?_
  refine lv_goto (tgt := 38) hx hb dX5_swap_34 (by decide) ?_
  refine lv_istore_n (lv' := [(3, .int (nI 1)), (0, .ref (ad 9 0)), (1, .int (nI j)), (2, .int (nI k))]) hx hb dX5_swap_38 rfl hl (by decide) rfl (fun ls hl => ?_)
  refine lv_iconst (v := nI 0) hx hb dX5_swap_39 (by decide) ?_
  refine lv_istore (lv' := [(4, .int (nI 0)), (3, .int (nI 1)), (0, .ref (ad 9 0)), (1, .int (nI j)), (2, .int (nI k))]) hx hb dX5_swap_40 hl (by decide) rfl (fun ls hl => ?_)
  refine lv_iload_n hx hb dX5_swap_42 rfl (lv_at hl 1 rfl) ?_
  refine lv_if_eq (tgt := 86) hx hb dX5_swap_43 (by decide) (fun h_43 => absurd h_43 (by decide)) (fun h_43 => ?_)
  refine lv_aload_n hx hb dX5_swap_46 rfl (lv_at hl 2 rfl) ?_
  refine lv_iload_n hx hb dX5_swap_47 rfl (lv_at hl 3 rfl) ?_
  refine lv_iload_n hx hb dX5_swap_48 rfl (lv_at hl 4 rfl) ?_
  refine k_cv (va_runV (As := [.int (nI j), .int (nI k)]) (rest := []) ⟨hx, hb, hml, hown, hts⟩ (c_X5_exchanges l hlt g ad t j k (by omega) (by omega)) (cwV 2 hts gX5_swap_X5_exchanges rfl rfl rfl (by decide +kernel) ⟨(Nat.le_of_ble_eq_true rfl), (Nat.le_of_ble_eq_true rfl)⟩) ⟨k_blind, k_recv hK hW (kc_9 g ad t) rfl, fun U hU hw => ⟨rfl, k_I.of hK hZ hN hS hW hU hw⟩⟩ rfl rfl hl.1 rfl (lv_room (Nat.le_of_ble_eq_true rfl)) dX5_swap_49 ⟨(Nat.le_of_ble_eq_true rfl), (Nat.le_of_ble_eq_true rfl)⟩) hS (fun u H locs hpo hW hS => ?_)
  have hu9 := hpo.symm; subst hu9
  have hW : k_H g ad (set_m_rt t (va_up (va_up (m_rt t) j (m_rt t k)) k (m_rt t j))) H := hW
  refine lv_aload_n hx hb dX5_swap_52 rfl (lv_at hl 2 rfl) ?_
  refine lv_iload_n hx hb dX5_swap_53 rfl (lv_at hl 3 rfl) ?_
  refine k_ci (va_runV (As := [.int (nI j)]) (rest := []) ⟨hx, hb, hml, hown, hts⟩ (c_X5_isTwice l hlt g ad (set_m_rt t (va_up (va_up (m_rt t) j (m_rt t k)) k (m_rt t j))) j (by omega) (k_ex_lt hp (by omega) (by omega))) (cwV 1 hts gX5_swap_X5_isTwice rfl rfl rfl (by decide +kernel) ⟨(Nat.le_of_ble_eq_true rfl), (Nat.le_of_ble_eq_true rfl)⟩) ⟨k_blind, k_recv hK hW (kc_9 g ad (set_m_rt t (va_up (va_up (m_rt t) j (m_rt t k)) k (m_rt t j)))) rfl, fun U hU hw => ⟨rfl, k_I.of hK hZ hN hS hW hU hw⟩⟩ rfl rfl hl.1 rfl (lv_room (Nat.le_of_ble_eq_true rfl)) dX5_swap_54 ⟨(Nat.le_of_ble_eq_true rfl), (Nat.le_of_ble_eq_true rfl)⟩) hS (fun r u H locs hpo hW hS => ?_)
  obtain ⟨hr9, hu9⟩ := hpo; replace hu9 := hu9.symm; subst hu9; replace hr9 := hr9.symm; subst hr9
  refine k_ifz_ne (tgt := 72) hx hb dX5_swap_57 (by decide) (fun h_57 => ?_) (fun h_57 => ?_)
  · refine lv_iconst (v := nI 0) hx hb dX5_swap_72 (by decide) ?_
    refine lv_istore (lv' := [(4, .int (nI 0)), (3, .int (nI 1)), (0, .ref (ad 9 0)), (1, .int (nI j)), (2, .int (nI k))]) hx hb dX5_swap_73 hl (by decide) rfl (fun ls hl => ?_)
    refine lv_iload hx hb dX5_swap_75 (lv_at hl 0 rfl) ?_
    refine lv_if_ne (tgt := 86) hx hb dX5_swap_77 (by decide) (fun h_77 => absurd h_77 (by decide)) (fun h_77 => ?_)
    refine lv_aload_n hx hb dX5_swap_80 rfl (lv_at hl 2 rfl) ?_
    refine lv_iload_n hx hb dX5_swap_81 rfl (lv_at hl 3 rfl) ?_
    refine lv_iload_n hx hb dX5_swap_82 rfl (lv_at hl 4 rfl) ?_
    refine k_cv (va_runV (As := [.int (nI j), .int (nI k)]) (rest := []) ⟨hx, hb, hml, hown, hts⟩ (c_X5_exchanges l hlt g ad (set_m_rt t (va_up (va_up (m_rt t) j (m_rt t k)) k (m_rt t j))) j k (by omega) (by omega)) (cwV 2 hts gX5_swap_X5_exchanges rfl rfl rfl (by decide +kernel) ⟨(Nat.le_of_ble_eq_true rfl), (Nat.le_of_ble_eq_true rfl)⟩) ⟨k_blind, k_recv hK hW (kc_9 g ad (set_m_rt t (va_up (va_up (m_rt t) j (m_rt t k)) k (m_rt t j)))) rfl, fun U hU hw => ⟨rfl, k_I.of hK hZ hN hS hW hU hw⟩⟩ rfl rfl hl.1 rfl (lv_room (Nat.le_of_ble_eq_true rfl)) dX5_swap_83 ⟨(Nat.le_of_ble_eq_true rfl), (Nat.le_of_ble_eq_true rfl)⟩) hS (fun u H locs hpo hW hS => ?_)
    have hu9 := hpo.symm; subst hu9
    have hW : k_H g ad (set_m_rt t (va_up (va_up (va_up (va_up (m_rt t) j (m_rt t k)) k (m_rt t j)) j ((va_up (va_up (m_rt t) j (m_rt t k)) k (m_rt t j)) k)) k ((va_up (va_up (m_rt t) j (m_rt t k)) k (m_rt t j)) j))) H := hW
    refine lv_aload_n hx hb dX5_swap_86 rfl (lv_at hl 2 rfl) ?_
    refine lv_iload_n hx hb dX5_swap_87 rfl (lv_at hl 1 rfl) ?_
    refine lv_iload hx hb dX5_swap_88 (lv_at hl 0 rfl) ?_
    refine lv_iconst (v := nI 1) hx hb dX5_swap_90 (by decide) ?_
    refine k_ci (va_runV (As := [.int (nI 1), .int (nI 0), .int (nI 1)]) (rest := []) ⟨hx, hb, hml, hown, hts⟩ (c_X5_goes_2 l hlt g ad (set_m_rt t (va_up (va_up (va_up (va_up (m_rt t) j (m_rt t k)) k (m_rt t j)) j ((va_up (va_up (m_rt t) j (m_rt t k)) k (m_rt t j)) k)) k ((va_up (va_up (m_rt t) j (m_rt t k)) k (m_rt t j)) j))) (nI 1) ) (cwV 3 hts gX5_swap_X5_goes rfl rfl rfl (by decide +kernel) ⟨(Nat.le_of_ble_eq_true rfl), (Nat.le_of_ble_eq_true rfl)⟩) ⟨k_blind, k_recv hK hW (kc_9 g ad (set_m_rt t (va_up (va_up (va_up (va_up (m_rt t) j (m_rt t k)) k (m_rt t j)) j ((va_up (va_up (m_rt t) j (m_rt t k)) k (m_rt t j)) k)) k ((va_up (va_up (m_rt t) j (m_rt t k)) k (m_rt t j)) j)))) rfl, fun U hU hw => ⟨rfl, k_I.of hK hZ hN hS hW hU hw⟩⟩ rfl rfl hl.1 rfl (lv_room (Nat.le_of_ble_eq_true rfl)) dX5_swap_91 ⟨(Nat.le_of_ble_eq_true rfl), (Nat.le_of_ble_eq_true rfl)⟩) hS (fun r u H locs hpo hW hS => ?_)
    obtain ⟨hr9, hu9⟩ := hpo; replace hu9 := hu9.symm; subst hu9; replace hr9 := hr9.symm; subst hr9
    have hW : k_H g ad (set_m_l (set_m_rt t (va_up (va_up (va_up (va_up (m_rt t) j (m_rt t k)) k (m_rt t j)) j ((va_up (va_up (m_rt t) j (m_rt t k)) k (m_rt t j)) k)) k ((va_up (va_up (m_rt t) j (m_rt t k)) k (m_rt t j)) j))) 2) H := hW
    refine lv_if_eq (tgt := 106) hx hb dX5_swap_94 (by decide) (fun h_94 => ?_) (fun h_94 => absurd h_94 (by decide))
    refine lv_iconst (v := nI 0) hx hb dX5_swap_106 (by decide) ?_
    exact k_ri hQ hx hb hr hlk hS hW ⟨rfl, by rw [k_ex_back]⟩ (Nat.le_of_ble_eq_true rfl) (Nat.le_of_ble_eq_true rfl) dX5_swap_107
  · refine lv_aload_n hx hb dX5_swap_60 rfl (lv_at hl 2 rfl) ?_
    refine lv_iload_n hx hb dX5_swap_61 rfl (lv_at hl 4 rfl) ?_
    refine k_ci (va_runV (As := [.int (nI k)]) (rest := []) ⟨hx, hb, hml, hown, hts⟩ (c_X5_isTwice l hlt g ad (set_m_rt t (va_up (va_up (m_rt t) j (m_rt t k)) k (m_rt t j))) k (by omega) (k_ex_lt hp (by omega) (by omega))) (cwV 1 hts gX5_swap_X5_isTwice rfl rfl rfl (by decide +kernel) ⟨(Nat.le_of_ble_eq_true rfl), (Nat.le_of_ble_eq_true rfl)⟩) ⟨k_blind, k_recv hK hW (kc_9 g ad (set_m_rt t (va_up (va_up (m_rt t) j (m_rt t k)) k (m_rt t j)))) rfl, fun U hU hw => ⟨rfl, k_I.of hK hZ hN hS hW hU hw⟩⟩ rfl rfl hl.1 rfl (lv_room (Nat.le_of_ble_eq_true rfl)) dX5_swap_62 ⟨(Nat.le_of_ble_eq_true rfl), (Nat.le_of_ble_eq_true rfl)⟩) hS (fun r u H locs hpo hW hS => ?_)
    obtain ⟨hr9, hu9⟩ := hpo; replace hu9 := hu9.symm; subst hu9; replace hr9 := hr9.symm; subst hr9
    refine k_ifz_ne (tgt := 72) hx hb dX5_swap_65 (by decide) (fun h_65 => ?_) (fun h_65 => absurd h_65 (fun q => absurd (hno.symm.trans (show (k_rest (k_ex (m_rt t) j k) j && k_rest (k_ex (m_rt t) j k) k) = true from by rw [Bool.and_eq_true]; exact ⟨kb_nt h_57, kb_nt q⟩)) (by decide)))
    refine lv_iconst (v := nI 0) hx hb dX5_swap_72 (by decide) ?_
    refine lv_istore (lv' := [(4, .int (nI 0)), (3, .int (nI 1)), (0, .ref (ad 9 0)), (1, .int (nI j)), (2, .int (nI k))]) hx hb dX5_swap_73 hl (by decide) rfl (fun ls hl => ?_)
    refine lv_iload hx hb dX5_swap_75 (lv_at hl 0 rfl) ?_
    refine lv_if_ne (tgt := 86) hx hb dX5_swap_77 (by decide) (fun h_77 => absurd h_77 (by decide)) (fun h_77 => ?_)
    refine lv_aload_n hx hb dX5_swap_80 rfl (lv_at hl 2 rfl) ?_
    refine lv_iload_n hx hb dX5_swap_81 rfl (lv_at hl 3 rfl) ?_
    refine lv_iload_n hx hb dX5_swap_82 rfl (lv_at hl 4 rfl) ?_
    refine k_cv (va_runV (As := [.int (nI j), .int (nI k)]) (rest := []) ⟨hx, hb, hml, hown, hts⟩ (c_X5_exchanges l hlt g ad (set_m_rt t (va_up (va_up (m_rt t) j (m_rt t k)) k (m_rt t j))) j k (by omega) (by omega)) (cwV 2 hts gX5_swap_X5_exchanges rfl rfl rfl (by decide +kernel) ⟨(Nat.le_of_ble_eq_true rfl), (Nat.le_of_ble_eq_true rfl)⟩) ⟨k_blind, k_recv hK hW (kc_9 g ad (set_m_rt t (va_up (va_up (m_rt t) j (m_rt t k)) k (m_rt t j)))) rfl, fun U hU hw => ⟨rfl, k_I.of hK hZ hN hS hW hU hw⟩⟩ rfl rfl hl.1 rfl (lv_room (Nat.le_of_ble_eq_true rfl)) dX5_swap_83 ⟨(Nat.le_of_ble_eq_true rfl), (Nat.le_of_ble_eq_true rfl)⟩) hS (fun u H locs hpo hW hS => ?_)
    have hu9 := hpo.symm; subst hu9
    have hW : k_H g ad (set_m_rt t (va_up (va_up (va_up (va_up (m_rt t) j (m_rt t k)) k (m_rt t j)) j ((va_up (va_up (m_rt t) j (m_rt t k)) k (m_rt t j)) k)) k ((va_up (va_up (m_rt t) j (m_rt t k)) k (m_rt t j)) j))) H := hW
    refine lv_aload_n hx hb dX5_swap_86 rfl (lv_at hl 2 rfl) ?_
    refine lv_iload_n hx hb dX5_swap_87 rfl (lv_at hl 1 rfl) ?_
    refine lv_iload hx hb dX5_swap_88 (lv_at hl 0 rfl) ?_
    refine lv_iconst (v := nI 1) hx hb dX5_swap_90 (by decide) ?_
    refine k_ci (va_runV (As := [.int (nI 1), .int (nI 0), .int (nI 1)]) (rest := []) ⟨hx, hb, hml, hown, hts⟩ (c_X5_goes_2 l hlt g ad (set_m_rt t (va_up (va_up (va_up (va_up (m_rt t) j (m_rt t k)) k (m_rt t j)) j ((va_up (va_up (m_rt t) j (m_rt t k)) k (m_rt t j)) k)) k ((va_up (va_up (m_rt t) j (m_rt t k)) k (m_rt t j)) j))) (nI 1) ) (cwV 3 hts gX5_swap_X5_goes rfl rfl rfl (by decide +kernel) ⟨(Nat.le_of_ble_eq_true rfl), (Nat.le_of_ble_eq_true rfl)⟩) ⟨k_blind, k_recv hK hW (kc_9 g ad (set_m_rt t (va_up (va_up (va_up (va_up (m_rt t) j (m_rt t k)) k (m_rt t j)) j ((va_up (va_up (m_rt t) j (m_rt t k)) k (m_rt t j)) k)) k ((va_up (va_up (m_rt t) j (m_rt t k)) k (m_rt t j)) j)))) rfl, fun U hU hw => ⟨rfl, k_I.of hK hZ hN hS hW hU hw⟩⟩ rfl rfl hl.1 rfl (lv_room (Nat.le_of_ble_eq_true rfl)) dX5_swap_91 ⟨(Nat.le_of_ble_eq_true rfl), (Nat.le_of_ble_eq_true rfl)⟩) hS (fun r u H locs hpo hW hS => ?_)
    obtain ⟨hr9, hu9⟩ := hpo; replace hu9 := hu9.symm; subst hu9; replace hr9 := hr9.symm; subst hr9
    have hW : k_H g ad (set_m_l (set_m_rt t (va_up (va_up (va_up (va_up (m_rt t) j (m_rt t k)) k (m_rt t j)) j ((va_up (va_up (m_rt t) j (m_rt t k)) k (m_rt t j)) k)) k ((va_up (va_up (m_rt t) j (m_rt t k)) k (m_rt t j)) j))) 2) H := hW
    refine lv_if_eq (tgt := 106) hx hb dX5_swap_94 (by decide) (fun h_94 => ?_) (fun h_94 => absurd h_94 (by decide))
    refine lv_iconst (v := nI 0) hx hb dX5_swap_106 (by decide) ?_
    exact k_ri hQ hx hb hr hlk hS hW ⟨rfl, by rw [k_ex_back]⟩ (Nat.le_of_ble_eq_true rfl) (Nat.le_of_ble_eq_true rfl) dX5_swap_107
set_option maxRecDepth 100000 in
set_option maxHeartbeats 4000000 in
theorem c_X5_swap_ok (l : Launch) (hlt : l.stackTraces = false) (g : k_g) (ad : k_AD) (t : k_T) (j : Nat) (k : Nat) (h1 : m_d t ≤ j) (h2 : j ≤ 364) (h3 : m_d t ≤ k) (h4 : k ≤ 364) (hne : j ≠ k) (hp : ∀ i, i < 365 → m_rt t i < 5) (h5 : k_rest (k_ex (m_rt t) j k) j = true) (h6 : k_rest (k_ex (m_rt t) j k) k = true) : Met l yX5_swap wsX5_swap rm_X5_swap (va_Pc [.ref (ad 9 0), .int (nI j), .int (nI k)] (k_I g (k_ct g ad t) ad)) (va_Qi (fun r u => r = nI (k_ex (m_rt t) j k j) ∧ u = set_m_l (set_m_rt t (k_ex (m_rt t) j k)) 0) (fun u U => k_H g ad u U.heap) (k_A g)) 0 0 (k_A g) := by
  refine k_met (cc := cX5_swap) (maxL := 5) (ret := (some .int)) (by decide) rfl (Nat.le_of_ble_eq_true rfl) (fun p e s m args below meth c Q ls hQ hx hb hr hml hts hown hlk hin hK hZ hN hW hS hl => ?_)
  have hown : s.vm.findClass RX5 = some m.cls := hown
  have hW : k_H g ad t s.heap := hW
  have hl : lv_has ls 5 [(0, .ref (ad 9 0)), (1, .int (nI j)), (2, .int (nI k))] := hl
  have hinX5 : ∀ w ∈ wsX50, w ∈ wsX5_swap := by decide +kernel
  refine lv_iload_n hx hb dX5_swap_0 rfl (lv_at hl 1 rfl) ?_
  refine lv_aload_n hx hb dX5_swap_1 rfl (lv_at hl 0 rfl) ?_
  refine k_get (own := RX5) (C := RX5) (T := TX5) (N := 21) hx hb hts hinX5 hown hK hW (kc_9 g ad t) rfl 3 (by decide) (hts (.fieldLink RX5 84 "DrillVaultModel" "day" "I") (by decide +kernel)) rfl (v := .int (nI (m_d t))) rfl dX5_swap_2 ?_
  refine lv_sipush (v := nI 364) hx hb dX5_swap_5 (by decide) ?_
  refine k_ci (va_runS (As := [.int (nI j), .int (nI (m_d t)), .int (nI 364)]) (rest := []) ⟨hx, hb, hml, hown, hts⟩ (c_X5_in_t l hlt g ad t (nI j) (nI (m_d t)) (nI 364) (k_in_n h1 h2 (by decide))) (va_cwS 3 hts gX5_swap_X5_in rfl rfl rfl (by decide +kernel) ⟨(Nat.le_of_ble_eq_true rfl), (Nat.le_of_ble_eq_true rfl)⟩) ⟨k_blind, fun U hU hw => ⟨rfl, k_I.of hK hZ hN hS hW hU hw⟩⟩ rfl rfl hl.1 rfl (lv_room (Nat.le_of_ble_eq_true rfl)) dX5_swap_8 ⟨(Nat.le_of_ble_eq_true rfl), (Nat.le_of_ble_eq_true rfl)⟩) hS (fun r u H locs hpo hW hS => ?_)
  obtain ⟨hr9, hu9⟩ := hpo; replace hu9 := hu9.symm; subst hu9; replace hr9 := hr9.symm; subst hr9
  refine lv_if_eq (tgt := 37) hx hb dX5_swap_11 (by decide) (fun h_11 => absurd h_11 (by decide)) (fun h_11 => ?_)
  refine lv_iload_n hx hb dX5_swap_14 rfl (lv_at hl 2 rfl) ?_
  refine lv_aload_n hx hb dX5_swap_15 rfl (lv_at hl 0 rfl) ?_
  refine k_get (own := RX5) (C := RX5) (T := TX5) (N := 21) hx hb hts hinX5 hown hK hW (kc_9 g ad t) rfl 3 (by decide) (hts (.fieldLink RX5 84 "DrillVaultModel" "day" "I") (by decide +kernel)) rfl (v := .int (nI (m_d t))) rfl dX5_swap_16 ?_
  refine lv_sipush (v := nI 364) hx hb dX5_swap_19 (by decide) ?_
  refine k_ci (va_runS (As := [.int (nI k), .int (nI (m_d t)), .int (nI 364)]) (rest := []) ⟨hx, hb, hml, hown, hts⟩ (c_X5_in_t l hlt g ad t (nI k) (nI (m_d t)) (nI 364) (k_in_n h3 h4 (by decide))) (va_cwS 3 hts gX5_swap_X5_in rfl rfl rfl (by decide +kernel) ⟨(Nat.le_of_ble_eq_true rfl), (Nat.le_of_ble_eq_true rfl)⟩) ⟨k_blind, fun U hU hw => ⟨rfl, k_I.of hK hZ hN hS hW hU hw⟩⟩ rfl rfl hl.1 rfl (lv_room (Nat.le_of_ble_eq_true rfl)) dX5_swap_22 ⟨(Nat.le_of_ble_eq_true rfl), (Nat.le_of_ble_eq_true rfl)⟩) hS (fun r u H locs hpo hW hS => ?_)
  obtain ⟨hr9, hu9⟩ := hpo; replace hu9 := hu9.symm; subst hu9; replace hr9 := hr9.symm; subst hr9
  refine lv_if_eq (tgt := 37) hx hb dX5_swap_25 (by decide) (fun h_25 => absurd h_25 (by decide)) (fun h_25 => ?_)
  refine lv_iload_n hx hb dX5_swap_28 rfl (lv_at hl 1 rfl) ?_
  refine lv_iload_n hx hb dX5_swap_29 rfl (lv_at hl 2 rfl) ?_
  refine k_icmp_eq (tgt := 37) hx hb (a := j) (b := k) (by omega) (by omega) dX5_swap_30 (by decide) (fun h_30 => absurd h_30 (by omega)) (fun h_30 => ?_)
  refine lv_iconst (v := nI 1) hx hb dX5_swap_33 (by decide) ?_
  refine lv_goto (tgt := 38) hx hb dX5_swap_34 (by decide) ?_
  refine lv_istore_n (lv' := [(3, .int (nI 1)), (0, .ref (ad 9 0)), (1, .int (nI j)), (2, .int (nI k))]) hx hb dX5_swap_38 rfl hl (by decide) rfl (fun ls hl => ?_)
  refine lv_iconst (v := nI 0) hx hb dX5_swap_39 (by decide) ?_
  refine lv_istore (lv' := [(4, .int (nI 0)), (3, .int (nI 1)), (0, .ref (ad 9 0)), (1, .int (nI j)), (2, .int (nI k))]) hx hb dX5_swap_40 hl (by decide) rfl (fun ls hl => ?_)
  refine lv_iload_n hx hb dX5_swap_42 rfl (lv_at hl 1 rfl) ?_
  refine lv_if_eq (tgt := 86) hx hb dX5_swap_43 (by decide) (fun h_43 => absurd h_43 (by decide)) (fun h_43 => ?_)
  refine lv_aload_n hx hb dX5_swap_46 rfl (lv_at hl 2 rfl) ?_
  refine lv_iload_n hx hb dX5_swap_47 rfl (lv_at hl 3 rfl) ?_
  refine lv_iload_n hx hb dX5_swap_48 rfl (lv_at hl 4 rfl) ?_
  refine k_cv (va_runV (As := [.int (nI j), .int (nI k)]) (rest := []) ⟨hx, hb, hml, hown, hts⟩ (c_X5_exchanges l hlt g ad t j k (by omega) (by omega)) (cwV 2 hts gX5_swap_X5_exchanges rfl rfl rfl (by decide +kernel) ⟨(Nat.le_of_ble_eq_true rfl), (Nat.le_of_ble_eq_true rfl)⟩) ⟨k_blind, k_recv hK hW (kc_9 g ad t) rfl, fun U hU hw => ⟨rfl, k_I.of hK hZ hN hS hW hU hw⟩⟩ rfl rfl hl.1 rfl (lv_room (Nat.le_of_ble_eq_true rfl)) dX5_swap_49 ⟨(Nat.le_of_ble_eq_true rfl), (Nat.le_of_ble_eq_true rfl)⟩) hS (fun u H locs hpo hW hS => ?_)
  have hu9 := hpo.symm; subst hu9
  have hW : k_H g ad (set_m_rt t (va_up (va_up (m_rt t) j (m_rt t k)) k (m_rt t j))) H := hW
  refine lv_aload_n hx hb dX5_swap_52 rfl (lv_at hl 2 rfl) ?_
  refine lv_iload_n hx hb dX5_swap_53 rfl (lv_at hl 3 rfl) ?_
  refine k_ci (va_runV (As := [.int (nI j)]) (rest := []) ⟨hx, hb, hml, hown, hts⟩ (c_X5_isTwice l hlt g ad (set_m_rt t (va_up (va_up (m_rt t) j (m_rt t k)) k (m_rt t j))) j (by omega) (k_ex_lt hp (by omega) (by omega))) (cwV 1 hts gX5_swap_X5_isTwice rfl rfl rfl (by decide +kernel) ⟨(Nat.le_of_ble_eq_true rfl), (Nat.le_of_ble_eq_true rfl)⟩) ⟨k_blind, k_recv hK hW (kc_9 g ad (set_m_rt t (va_up (va_up (m_rt t) j (m_rt t k)) k (m_rt t j)))) rfl, fun U hU hw => ⟨rfl, k_I.of hK hZ hN hS hW hU hw⟩⟩ rfl rfl hl.1 rfl (lv_room (Nat.le_of_ble_eq_true rfl)) dX5_swap_54 ⟨(Nat.le_of_ble_eq_true rfl), (Nat.le_of_ble_eq_true rfl)⟩) hS (fun r u H locs hpo hW hS => ?_)
  obtain ⟨hr9, hu9⟩ := hpo; replace hu9 := hu9.symm; subst hu9; replace hr9 := hr9.symm; subst hr9
  refine k_ifz_ne (tgt := 72) hx hb dX5_swap_57 (by decide) (fun h_57 => absurd h_57 (kb_nf h5)) (fun h_57 => ?_)
  refine lv_aload_n hx hb dX5_swap_60 rfl (lv_at hl 2 rfl) ?_
  refine lv_iload_n hx hb dX5_swap_61 rfl (lv_at hl 4 rfl) ?_
  refine k_ci (va_runV (As := [.int (nI k)]) (rest := []) ⟨hx, hb, hml, hown, hts⟩ (c_X5_isTwice l hlt g ad (set_m_rt t (va_up (va_up (m_rt t) j (m_rt t k)) k (m_rt t j))) k (by omega) (k_ex_lt hp (by omega) (by omega))) (cwV 1 hts gX5_swap_X5_isTwice rfl rfl rfl (by decide +kernel) ⟨(Nat.le_of_ble_eq_true rfl), (Nat.le_of_ble_eq_true rfl)⟩) ⟨k_blind, k_recv hK hW (kc_9 g ad (set_m_rt t (va_up (va_up (m_rt t) j (m_rt t k)) k (m_rt t j)))) rfl, fun U hU hw => ⟨rfl, k_I.of hK hZ hN hS hW hU hw⟩⟩ rfl rfl hl.1 rfl (lv_room (Nat.le_of_ble_eq_true rfl)) dX5_swap_62 ⟨(Nat.le_of_ble_eq_true rfl), (Nat.le_of_ble_eq_true rfl)⟩) hS (fun r u H locs hpo hW hS => ?_)
  obtain ⟨hr9, hu9⟩ := hpo; replace hu9 := hu9.symm; subst hu9; replace hr9 := hr9.symm; subst hr9
  refine k_ifz_ne (tgt := 72) hx hb dX5_swap_65 (by decide) (fun h_65 => absurd h_65 (kb_nf h6)) (fun h_65 => ?_)
  refine lv_iconst (v := nI 1) hx hb dX5_swap_68 (by decide) ?_
  refine lv_goto (tgt := 73) hx hb dX5_swap_69 (by decide) ?_
  refine lv_istore (lv' := [(4, .int (nI 1)), (3, .int (nI 1)), (0, .ref (ad 9 0)), (1, .int (nI j)), (2, .int (nI k))]) hx hb dX5_swap_73 hl (by decide) rfl (fun ls hl => ?_)
  refine lv_iload hx hb dX5_swap_75 (lv_at hl 0 rfl) ?_
  refine lv_if_ne (tgt := 86) hx hb dX5_swap_77 (by decide) (fun h_77 => ?_) (fun h_77 => absurd h_77 (by decide))
  refine lv_aload_n hx hb dX5_swap_86 rfl (lv_at hl 2 rfl) ?_
  refine lv_iload_n hx hb dX5_swap_87 rfl (lv_at hl 1 rfl) ?_
  refine lv_iload hx hb dX5_swap_88 (lv_at hl 0 rfl) ?_
  refine lv_iconst (v := nI 1) hx hb dX5_swap_90 (by decide) ?_
  refine k_ci (va_runV (As := [.int (nI 1), .int (nI 1), .int (nI 1)]) (rest := []) ⟨hx, hb, hml, hown, hts⟩ (c_X5_goes_0 l hlt g ad (set_m_rt t (va_up (va_up (m_rt t) j (m_rt t k)) k (m_rt t j))) ) (cwV 3 hts gX5_swap_X5_goes rfl rfl rfl (by decide +kernel) ⟨(Nat.le_of_ble_eq_true rfl), (Nat.le_of_ble_eq_true rfl)⟩) ⟨k_blind, k_recv hK hW (kc_9 g ad (set_m_rt t (va_up (va_up (m_rt t) j (m_rt t k)) k (m_rt t j)))) rfl, fun U hU hw => ⟨rfl, k_I.of hK hZ hN hS hW hU hw⟩⟩ rfl rfl hl.1 rfl (lv_room (Nat.le_of_ble_eq_true rfl)) dX5_swap_91 ⟨(Nat.le_of_ble_eq_true rfl), (Nat.le_of_ble_eq_true rfl)⟩) hS (fun r u H locs hpo hW hS => ?_)
  obtain ⟨hr9, hu9⟩ := hpo; replace hu9 := hu9.symm; subst hu9; replace hr9 := hr9.symm; subst hr9
  have hW : k_H g ad (set_m_l (set_m_rt t (va_up (va_up (m_rt t) j (m_rt t k)) k (m_rt t j))) 0) H := hW
  refine lv_if_eq (tgt := 106) hx hb dX5_swap_94 (by decide) (fun h_94 => absurd h_94 (by decide)) (fun h_94 => ?_)
  refine lv_aload_n hx hb dX5_swap_97 rfl (lv_at hl 2 rfl) ?_
  refine k_get (own := RX5) (C := RX5) (T := TX5) (N := 21) hx hb hts hinX5 hown hK hW (kc_9 g ad (set_m_l (set_m_rt t (va_up (va_up (m_rt t) j (m_rt t k)) k (m_rt t j))) 0)) rfl 19 (by decide) (hts (.fieldLink RX5 60 "DrillVaultModel" "rota" "[I") (by decide +kernel)) rfl (v := .ref (ad 23 0)) rfl dX5_swap_98 ?_
  refine lv_iload_n hx hb dX5_swap_101 rfl (lv_at hl 3 rfl) ?_
  refine k_iald hx hb hK hW (kc_23 g ad (set_m_l (set_m_rt t (va_up (va_up (m_rt t) j (m_rt t k)) k (m_rt t j))) 0)) j rfl (by omega) (by decide) dX5_swap_102 ?_
  refine k_tov (y := .int (nI ((va_up (va_up (m_rt t) j (m_rt t k)) k (m_rt t j)) j))) rfl ?_
  refine lv_goto (tgt := 107) hx hb dX5_swap_103 (by decide) ?_
  exact k_ri hQ hx hb hr hlk hS hW ⟨rfl, rfl⟩ (Nat.le_of_ble_eq_true rfl) (Nat.le_of_ble_eq_true rfl) dX5_swap_107
abbrev rm_X5_alarm : Room := { frames := 1, cells := 0, slots := 0, locals := 23 }
set_option maxRecDepth 100000 in
set_option maxHeartbeats 4000000 in
theorem c_X5_alarm_b (l : Launch) (hlt : l.stackTraces = false) (g : k_g) (ad : k_AD) (t : k_T) (z : Int32) (hz : z < 0 ∨ nI 31 < z) : Met l yX5_alarm wsX5_alarm rm_X5_alarm (va_Pc [.ref (ad 9 0), .int z] (k_I g (k_ct g ad t) ad)) (va_Qi (fun r u => r = nI 0 ∧ u = set_m_l t 1) (fun u U => k_H g ad u U.heap) (k_A g)) 0 0 (k_A g) := by
  refine k_met (cc := cX5_alarm) (maxL := 3) (ret := (some .int)) (by decide) rfl (Nat.le_of_ble_eq_true rfl) (fun p e s m args below meth c Q ls hQ hx hb hr hml hts hown hlk hin hK hZ hN hW hS hl => ?_)
  have hown : s.vm.findClass RX5 = some m.cls := hown
  have hW : k_H g ad t s.heap := hW
  have hl : lv_has ls 3 [(0, .ref (ad 9 0)), (1, .int z)] := hl
  refine lv_aload_n hx hb dX5_alarm_0 rfl (lv_at hl 0 rfl) ?_
  refine lv_iload_n hx hb dX5_alarm_1 rfl (lv_at hl 1 rfl) ?_
  refine lv_iconst (v := nI 0) hx hb dX5_alarm_2 (by decide) ?_
  refine lv_bipush (v := nI 31) hx hb dX5_alarm_3 (by decide) ?_
  refine k_ci (va_runS (As := [.int z, .int (nI 0), .int (nI 31)]) (rest := [.ref (ad 9 0)]) ⟨hx, hb, hml, hown, hts⟩ (c_X5_in_f l hlt g ad t z (nI 0) (nI 31) (k_in_f hz)) (va_cwS 3 hts gX5_alarm_X5_in rfl rfl rfl (by decide +kernel) ⟨(Nat.le_of_ble_eq_true rfl), (Nat.le_of_ble_eq_true rfl)⟩) ⟨k_blind, fun U hU hw => ⟨rfl, k_I.of hK hZ hN hS hW hU hw⟩⟩ rfl rfl hl.1 rfl (lv_room (Nat.le_of_ble_eq_true rfl)) dX5_alarm_5 ⟨(Nat.le_of_ble_eq_true rfl), (Nat.le_of_ble_eq_true rfl)⟩) hS (fun r u H locs hpo hW hS => ?_)
  obtain ⟨hr9, hu9⟩ := hpo; replace hu9 := hu9.symm; subst hu9; replace hr9 := hr9.symm; subst hr9
  refine lv_iconst (v := nI 1) hx hb dX5_alarm_8 (by decide) ?_
  refine lv_iconst (v := nI 1) hx hb dX5_alarm_9 (by decide) ?_
  refine k_ci (va_runV (As := [.int (nI 0), .int (nI 1), .int (nI 1)]) (rest := []) ⟨hx, hb, hml, hown, hts⟩ (c_X5_goes_1 l hlt g ad t (nI 1) (nI 1) ) (cwV 3 hts gX5_alarm_X5_goes rfl rfl rfl (by decide +kernel) ⟨(Nat.le_of_ble_eq_true rfl), (Nat.le_of_ble_eq_true rfl)⟩) ⟨k_blind, k_recv hK hW (kc_9 g ad t) rfl, fun U hU hw => ⟨rfl, k_I.of hK hZ hN hS hW hU hw⟩⟩ rfl rfl hl.1 rfl (lv_room (Nat.le_of_ble_eq_true rfl)) dX5_alarm_10 ⟨(Nat.le_of_ble_eq_true rfl), (Nat.le_of_ble_eq_true rfl)⟩) hS (fun r u H locs hpo hW hS => ?_)
  obtain ⟨hr9, hu9⟩ := hpo; replace hu9 := hu9.symm; subst hu9; replace hr9 := hr9.symm; subst hr9
  have hW : k_H g ad (set_m_l t 1) H := hW
  refine lv_if_ne (tgt := 18) hx hb dX5_alarm_13 (by decide) (fun h_13 => absurd h_13 (by decide)) (fun h_13 => ?_)
  refine lv_iconst (v := nI 0) hx hb dX5_alarm_16 (by decide) ?_
  exact k_ri hQ hx hb hr hlk hS hW ⟨rfl, rfl⟩ (Nat.le_of_ble_eq_true rfl) (Nat.le_of_ble_eq_true rfl) dX5_alarm_17
set_option maxRecDepth 100000 in
set_option maxHeartbeats 4000000 in
theorem c_X5_alarm_ok (l : Launch) (hlt : l.stackTraces = false) (g : k_g) (ad : k_AD) (t : k_T) (an : Nat) (han : an ≤ 31) (hd : m_d t ≤ 360) (hp : ∀ i, i < 365 → m_rt t i < 5) : Met l yX5_alarm wsX5_alarm rm_X5_alarm (va_Pc [.ref (ad 9 0), .int (nI an)] (k_I g (k_ct g ad t) ad)) (va_Qi (fun r u => r = k_al (m_rt t) an 4 (m_d t) ∧ u = set_m_l t 0) (fun u U => k_H g ad u U.heap) (k_A g)) 0 0 (k_A g) := by
  refine k_met (cc := cX5_alarm) (maxL := 3) (ret := (some .int)) (by decide) rfl (Nat.le_of_ble_eq_true rfl) (fun p e s m args below meth c Q ls hQ hx hb hr hml hts hown hlk hin hK hZ hN hW hS hl => ?_)
  have hown : s.vm.findClass RX5 = some m.cls := hown
  have hW : k_H g ad t s.heap := hW
  have hl : lv_has ls 3 [(0, .ref (ad 9 0)), (1, .int (nI an))] := hl
  have hinX5 : ∀ w ∈ wsX50, w ∈ wsX5_alarm := by decide +kernel
  refine lv_aload_n hx hb dX5_alarm_0 rfl (lv_at hl 0 rfl) ?_
  refine lv_iload_n hx hb dX5_alarm_1 rfl (lv_at hl 1 rfl) ?_
  refine lv_iconst (v := nI 0) hx hb dX5_alarm_2 (by decide) ?_
  refine lv_bipush (v := nI 31) hx hb dX5_alarm_3 (by decide) ?_
  refine k_ci (va_runS (As := [.int (nI an), .int (nI 0), .int (nI 31)]) (rest := [.ref (ad 9 0)]) ⟨hx, hb, hml, hown, hts⟩ (c_X5_in_t l hlt g ad t (nI an) (nI 0) (nI 31) (k_in_n (Nat.zero_le _) han (by decide))) (va_cwS 3 hts gX5_alarm_X5_in rfl rfl rfl (by decide +kernel) ⟨(Nat.le_of_ble_eq_true rfl), (Nat.le_of_ble_eq_true rfl)⟩) ⟨k_blind, fun U hU hw => ⟨rfl, k_I.of hK hZ hN hS hW hU hw⟩⟩ rfl rfl hl.1 rfl (lv_room (Nat.le_of_ble_eq_true rfl)) dX5_alarm_5 ⟨(Nat.le_of_ble_eq_true rfl), (Nat.le_of_ble_eq_true rfl)⟩) hS (fun r u H locs hpo hW hS => ?_)
  obtain ⟨hr9, hu9⟩ := hpo; replace hu9 := hu9.symm; subst hu9; replace hr9 := hr9.symm; subst hr9
  refine lv_iconst (v := nI 1) hx hb dX5_alarm_8 (by decide) ?_
  refine lv_iconst (v := nI 1) hx hb dX5_alarm_9 (by decide) ?_
  refine k_ci (va_runV (As := [.int (nI 1), .int (nI 1), .int (nI 1)]) (rest := []) ⟨hx, hb, hml, hown, hts⟩ (c_X5_goes_0 l hlt g ad t ) (cwV 3 hts gX5_alarm_X5_goes rfl rfl rfl (by decide +kernel) ⟨(Nat.le_of_ble_eq_true rfl), (Nat.le_of_ble_eq_true rfl)⟩) ⟨k_blind, k_recv hK hW (kc_9 g ad t) rfl, fun U hU hw => ⟨rfl, k_I.of hK hZ hN hS hW hU hw⟩⟩ rfl rfl hl.1 rfl (lv_room (Nat.le_of_ble_eq_true rfl)) dX5_alarm_10 ⟨(Nat.le_of_ble_eq_true rfl), (Nat.le_of_ble_eq_true rfl)⟩) hS (fun r u H locs hpo hW hS => ?_)
  obtain ⟨hr9, hu9⟩ := hpo; replace hu9 := hu9.symm; subst hu9; replace hr9 := hr9.symm; subst hr9
  have hW : k_H g ad (set_m_l t 0) H := hW
  refine lv_if_ne (tgt := 18) hx hb dX5_alarm_13 (by decide) (fun h_13 => ?_) (fun h_13 => absurd h_13 (by decide))
  refine lv_iconst (v := nI 0) hx hb dX5_alarm_18 (by decide) ?_
  refine lv_istore_n (lv' := [(2, .int (nI 0)), (0, .ref (ad 9 0)), (1, .int (nI an))]) hx hb dX5_alarm_19 rfl hl (by decide) rfl (fun ls hl => ?_)
  have hloop_20 : ∀ (n : Nat) (i : Nat), (4 < i + n) → (i ≤ 4) → (k_al (m_rt t) an 4 (m_d t) = k_al (m_rt t) an (4 - i) (m_d t + i)) → ∀ (H : Heap) (locs : List Loc), k_H g ad (set_m_l t 0) H → va_S (k_A g) s.heap H locs → ∀ (ls : Array Slot), lv_has ls 3 [(0, .ref (ad 9 0)), (1, .int (nI an)), (2, .int (nI i))] → W p l e rm_X5_alarm s m args below meth c H locs 0 0 Q (F0 m 20 ls []) := by
    intro n
    induction n with
    | zero =>
      intro i hfu hi hz
      exact absurd hfu (by omega)
    | succ n ih =>
      intro i hfu hi hz H locs hW hS ls hl
      refine lv_iload_n hx hb dX5_alarm_20 rfl (lv_at hl 2 rfl) ?_
      refine lv_iconst (v := nI 4) hx hb dX5_alarm_21 (by decide) ?_
      refine k_icmp_ge (tgt := 62) hx hb (a := i) (b := 4) (by omega) (by decide) dX5_alarm_22 (by decide) (fun h_22 => ?_) (fun h_22 => ?_)
      · refine lv_iconst (v := (-1)) hx hb dX5_alarm_62 (by decide) ?_
        exact k_ri hQ hx hb hr hlk hS hW ⟨by rw [hz, show 4 - i = 0 by omega]; rfl, rfl⟩ (Nat.le_of_ble_eq_true rfl) (Nat.le_of_ble_eq_true rfl) dX5_alarm_63
      · refine lv_iload_n hx hb dX5_alarm_25 rfl (lv_at hl 1 rfl) ?_
        refine lv_aload_n hx hb dX5_alarm_26 rfl (lv_at hl 0 rfl) ?_
        refine k_get (own := RX5) (C := RX5) (T := TX5) (N := 21) hx hb hts hinX5 hown hK hW (kc_9 g ad (set_m_l t 0)) rfl 19 (by decide) (hts (.fieldLink RX5 60 "DrillVaultModel" "rota" "[I") (by decide +kernel)) rfl (v := .ref (ad 23 0)) rfl dX5_alarm_27 ?_
        refine lv_aload_n hx hb dX5_alarm_30 rfl (lv_at hl 0 rfl) ?_
        refine k_get (own := RX5) (C := RX5) (T := TX5) (N := 21) hx hb hts hinX5 hown hK hW (kc_9 g ad (set_m_l t 0)) rfl 3 (by decide) (hts (.fieldLink RX5 84 "DrillVaultModel" "day" "I") (by decide +kernel)) rfl (v := .int (nI (m_d t))) rfl dX5_alarm_31 ?_
        refine lv_iload_n hx hb dX5_alarm_34 rfl (lv_at hl 2 rfl) ?_
        refine k_iadd hx hb dX5_alarm_35 ?_
        refine k_iald hx hb hK hW (kc_23 g ad (set_m_l t 0)) ((m_d t) + i) rfl (by omega) (by decide) dX5_alarm_36 ?_
        refine k_tov (y := .int (nI (m_rt t ((m_d t) + i)))) rfl ?_
        refine lv_ishr hx hb dX5_alarm_37 ?_
        refine lv_iconst (v := nI 1) hx hb dX5_alarm_38 (by decide) ?_
        refine lv_iand hx hb dX5_alarm_39 ?_
        refine lv_iconst (v := nI 1) hx hb dX5_alarm_40 (by decide) ?_
        refine lv_icmp_ne (tgt := 56) hx hb dX5_alarm_41 (by decide) (fun h_41 => ?_) (fun h_41 => ?_)
        · refine lv_iinc (v := nI (i + 1)) (lv' := [(2, .int (nI (i + 1))), (0, .ref (ad 9 0)), (1, .int (nI an))]) hx hb dX5_alarm_56 hl (k := 2) rfl (nI_add _ _) (by decide) rfl (fun ls hl => ?_)
          refine lv_goto (tgt := 20) hx hb dX5_alarm_59 (by decide) ?_
          exact ih (i + 1) (by omega) (by omega) (by rw [hz, show 4 - i = (4 - (i + 1)) + 1 by omega, k_al, if_neg (fun q => h_41 ((k_shr an (by omega) _ (hp (m_d t + i) (by omega))).mpr q))]; rfl) _ _ hW hS _ (lv_sub hl [1, 2, 0] rfl)
        · refine lv_aload_n hx hb dX5_alarm_44 rfl (lv_at hl 0 rfl) ?_
          refine k_get (own := RX5) (C := RX5) (T := TX5) (N := 21) hx hb hts hinX5 hown hK hW (kc_9 g ad (set_m_l t 0)) rfl 19 (by decide) (hts (.fieldLink RX5 60 "DrillVaultModel" "rota" "[I") (by decide +kernel)) rfl (v := .ref (ad 23 0)) rfl dX5_alarm_45 ?_
          refine lv_aload_n hx hb dX5_alarm_48 rfl (lv_at hl 0 rfl) ?_
          refine k_get (own := RX5) (C := RX5) (T := TX5) (N := 21) hx hb hts hinX5 hown hK hW (kc_9 g ad (set_m_l t 0)) rfl 3 (by decide) (hts (.fieldLink RX5 84 "DrillVaultModel" "day" "I") (by decide +kernel)) rfl (v := .int (nI (m_d t))) rfl dX5_alarm_49 ?_
          refine lv_iload_n hx hb dX5_alarm_52 rfl (lv_at hl 2 rfl) ?_
          refine k_iadd hx hb dX5_alarm_53 ?_
          refine k_iald hx hb hK hW (kc_23 g ad (set_m_l t 0)) ((m_d t) + i) rfl (by omega) (by decide) dX5_alarm_54 ?_
          refine k_tov (y := .int (nI (m_rt t ((m_d t) + i)))) rfl ?_
          exact k_ri hQ hx hb hr hlk hS hW ⟨by rw [hz, show 4 - i = (4 - (i + 1)) + 1 by omega, k_al, if_pos ((k_shr an (by omega) _ (hp (m_d t + i) (by omega))).mp h_41)], rfl⟩ (Nat.le_of_ble_eq_true rfl) (Nat.le_of_ble_eq_true rfl) dX5_alarm_55
  exact hloop_20 5 0 (by omega) (by omega) rfl _ _ hW hS _ (lv_sub hl [1, 2, 0] rfl)
