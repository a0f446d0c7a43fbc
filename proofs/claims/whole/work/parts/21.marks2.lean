abbrev rm_X5_marks : Room := { frames := 1, cells := 0, slots := 0, locals := 25 }
set_option maxRecDepth 100000 in
set_option maxHeartbeats 4000000 in
theorem c_X5_marks_try0 (l : Launch) (hlt : l.stackTraces = false) (g : k_g) (ad : k_AD) (t : k_T) (hm60 : m_md t ≤ 60) (hmb : ∀ k b, k < m_md t → m_b t k = some b → b < k) (hmo : ∀ j, j < m_md t → m_on t j ≤ 360) (hr1 : m_r1 t ≤ 30) (hr2 : m_r2 t ≤ 30) (hr3 : m_r3 t ≤ 30) : Met l yX5_marks wsX5_marks rm_X5_marks (va_Pc [.ref (ad 9 0)] (k_I g (k_ct g ad t) ad)) (va_Qi (fun r u => r = nI (k_cb (k_PmM (m_md t) (m_th t) (m_pm t) (m_on t) (m_r1 t) (m_r2 t) (m_r3 t)) (m_md t)) ∧ u = set_m_nd (set_m_pm t (k_PmM (m_md t) (m_th t) (m_pm t) (m_on t) (m_r1 t) (m_r2 t) (m_r3 t))) (k_NmM (m_md t) (m_nd t) (k_PmM (m_md t) (m_th t) (m_pm t) (m_on t) (m_r1 t) (m_r2 t) (m_r3 t)) (m_b t))) (fun u U => k_H g ad u U.heap) (k_A g)) 0 0 (k_A g) := by
  refine k_met (cc := cX5_marks) (maxL := 4) (ret := (some .int)) (by decide) rfl (Nat.le_of_ble_eq_true rfl) (fun p e s m args below meth c Q ls hQ hx hb hr hml hts hown hlk hin hK hZ hN hW hS hl => ?_)
  have hown : s.vm.findClass RX5 = some m.cls := hown
  have hW : k_H g ad t s.heap := hW
  have hl : lv_has ls 4 [(0, .ref (ad 9 0))] := hl
  have hinX5 : ∀ w ∈ wsX50, w ∈ wsX5_marks := by decide +kernel
  refine lv_iconst (v := nI 0) hx hb dX5_marks_0 (by decide) ?_
  refine lv_istore_n (lv' := [(1, .int (nI 0)), (0, .ref (ad 9 0))]) hx hb dX5_marks_1 rfl hl (by decide) rfl (fun ls hl => ?_)
  refine lv_iconst (v := nI 0) hx hb dX5_marks_2 (by decide) ?_
  refine lv_istore_n (lv' := [(2, .int (nI 0)), (1, .int (nI 0)), (0, .ref (ad 9 0))]) hx hb dX5_marks_3 rfl hl (by decide) rfl (fun ls hl => ?_)
  have hloop_4 : ∀ (n : Nat) (i : Nat) (P1 : Nat → Bool) (N1 : Nat → Bool), (m_md t < i + n) → (i ≤ m_md t) → (∀ j, P1 j = if (decide (j < i) && (fun j => decide (j < m_md t)) j) = true then (fun _ => false) j else m_pm t j) → (∀ j, N1 j = if (decide (j < i) && (fun j => decide (j < m_md t)) j) = true then (fun _ => false) j else m_nd t j) → ∀ (H : Heap) (locs : List Loc), k_H g ad (set_m_nd (set_m_pm t P1) N1) H → va_S (k_A g) s.heap H locs → ∀ (ls : Array Slot), lv_has ls 4 [(0, .ref (ad 9 0)), (1, .int (nI 0)), (2, .int (nI i))] → W p l e rm_X5_marks s m args below meth c H locs 0 0 Q (F0 m 4 ls []) := by
    intro n
    induction n with
    | zero =>
      intro i P1 N1 hfu hi hP1 hN1
      exact absurd hfu (by omega)
    | succ n ih =>
      intro i P1 N1 hfu hi hP1 hN1 H locs hW hS ls hl
      refine lv_iload_n hx hb dX5_marks_4 rfl (lv_at hl 2 rfl) ?_
      refine lv_aload_n hx hb dX5_marks_5 rfl (lv_at hl 0 rfl) ?_
      refine k_get (own := RX5) (C := RX5) (T := TX5) (N := 21) hx hb hts hinX5 hown hK hW (kc_9 g ad (set_m_nd (set_m_pm t P1) N1)) rfl 12 (by decide) (hts (.fieldLink RX5 66 "DrillVaultModel" "made" "I") (by decide +kernel)) rfl (v := .int (nI (m_md t))) rfl dX5_marks_6 ?_
      refine k_icmp_ge (tgt := 32) hx hb (a := i) (b := m_md t) (by omega) (by omega) dX5_marks_9 (by decide) (fun h_9 => ?_) (fun h_9 => ?_)
      · sorry
      · refine lv_aload_n hx hb dX5_marks_12 rfl (lv_at hl 0 rfl) ?_
        refine k_get (own := RX5) (C := RX5) (T := TX5) (N := 21) hx hb hts hinX5 hown hK hW (kc_9 g ad (set_m_nd (set_m_pm t P1) N1)) rfl 16 (by decide) (hts (.fieldLink RX5 51 "DrillVaultModel" "promised" "[Z") (by decide +kernel)) rfl (v := .ref (ad 20 0)) rfl dX5_marks_13 ?_
        refine lv_iload_n hx hb dX5_marks_16 rfl (lv_at hl 2 rfl) ?_
        refine lv_iconst (v := nI 0) hx hb dX5_marks_17 (by decide) ?_
        refine k_zast hx hb hK hW hS (kc_20 g ad (set_m_nd (set_m_pm t P1) N1)) rfl i rfl (by omega) (by decide) dX5_marks_18 (fun H locs hW hS => ?_)
        have hW : k_H g ad (set_m_pm (set_m_nd t N1) (va_up P1 i false)) H := kt_m_pm (t := set_m_nd (set_m_pm t P1) N1) i false rfl hW
        refine lv_aload_n hx hb dX5_marks_19 rfl (lv_at hl 0 rfl) ?_
        refine k_get (own := RX5) (C := RX5) (T := TX5) (N := 21) hx hb hts hinX5 hown hK hW (kc_9 g ad (set_m_pm (set_m_nd t N1) (va_up P1 i false))) rfl 17 (by decide) (hts (.fieldLink RX5 54 "DrillVaultModel" "needed" "[Z") (by decide +kernel)) rfl (v := .ref (ad 21 0)) rfl dX5_marks_20 ?_
        refine lv_iload_n hx hb dX5_marks_23 rfl (lv_at hl 2 rfl) ?_
        refine lv_iconst (v := nI 0) hx hb dX5_marks_24 (by decide) ?_
        refine k_zast hx hb hK hW hS (kc_21 g ad (set_m_pm (set_m_nd t N1) (va_up P1 i false))) rfl i rfl (by omega) (by decide) dX5_marks_25 (fun H locs hW hS => ?_)
        have hW : k_H g ad (set_m_nd (set_m_pm t (va_up P1 i false)) (va_up N1 i false)) H := kt_m_nd (t := set_m_pm (set_m_nd t N1) (va_up P1 i false)) i false rfl hW
        refine lv_iinc (v := nI (i + 1)) (lv' := [(2, .int (nI (i + 1))), (0, .ref (ad 9 0)), (1, .int (nI 0))]) hx hb dX5_marks_26 hl (k := 2) rfl (nI_add _ _) (by decide) rfl (fun ls hl => ?_)
        refine lv_goto (tgt := 4) hx hb dX5_marks_29 (by decide) ?_
        exact ih (i + 1) (va_up P1 i false) (va_up N1 i false) (by omega) (by omega) (k_rs hP1 (k_lm h_9) rfl) (k_rs hN1 (k_lm h_9) rfl) _ _ hW hS _ (lv_sub hl [1, 2, 0] rfl)
  exact hloop_4 (m_md t + 1) 0 (m_pm t) (m_nd t) (by omega) (by omega) k_rs_0 k_rs_0 _ _ hW hS _ (lv_sub hl [2, 1, 0] rfl)
set_option maxRecDepth 100000 in
set_option maxHeartbeats 4000000 in
theorem c_X5_marks_try1 (l : Launch) (hlt : l.stackTraces = false) (g : k_g) (ad : k_AD) (t : k_T) (hm60 : m_md t ≤ 60) (hmb : ∀ k b, k < m_md t → m_b t k = some b → b < k) (hmo : ∀ j, j < m_md t → m_on t j ≤ 360) (hr1 : m_r1 t ≤ 30) (hr2 : m_r2 t ≤ 30) (hr3 : m_r3 t ≤ 30) : Met l yX5_marks wsX5_marks rm_X5_marks (va_Pc [.ref (ad 9 0)] (k_I g (k_ct g ad t) ad)) (va_Qi (fun r u => r = nI (k_cb (k_PmM (m_md t) (m_th t) (m_pm t) (m_on t) (m_r1 t) (m_r2 t) (m_r3 t)) (m_md t)) ∧ u = set_m_nd (set_m_pm t (k_PmM (m_md t) (m_th t) (m_pm t) (m_on t) (m_r1 t) (m_r2 t) (m_r3 t))) (k_NmM (m_md t) (m_nd t) (k_PmM (m_md t) (m_th t) (m_pm t) (m_on t) (m_r1 t) (m_r2 t) (m_r3 t)) (m_b t))) (fun u U => k_H g ad u U.heap) (k_A g)) 0 0 (k_A g) := by
  refine k_met (cc := cX5_marks) (maxL := 4) (ret := (some .int)) (by decide) rfl (Nat.le_of_ble_eq_true rfl) (fun p e s m args below meth c Q ls hQ hx hb hr hml hts hown hlk hin hK hZ hN hW hS hl => ?_)
  have hown : s.vm.findClass RX5 = some m.cls := hown
  have hW : k_H g ad t s.heap := hW
  have hl : lv_has ls 4 [(0, .ref (ad 9 0))] := hl
  have hinX5 : ∀ w ∈ wsX50, w ∈ wsX5_marks := by decide +kernel
  refine lv_iconst (v := nI 0) hx hb dX5_marks_0 (by decide) ?_
  refine lv_istore_n (lv' := [(1, .int (nI 0)), (0, .ref (ad 9 0))]) hx hb dX5_marks_1 rfl hl (by decide) rfl (fun ls hl => ?_)
  refine lv_iconst (v := nI 0) hx hb dX5_marks_2 (by decide) ?_
  refine lv_istore_n (lv' := [(2, .int (nI 0)), (1, .int (nI 0)), (0, .ref (ad 9 0))]) hx hb dX5_marks_3 rfl hl (by decide) rfl (fun ls hl => ?_)
  have hloop_4 : ∀ (n : Nat) (i : Nat) (P1 : Nat → Bool) (N1 : Nat → Bool), (m_md t < i + n) → (i ≤ m_md t) → (∀ j, P1 j = if (decide (j < i) && (fun j => decide (j < m_md t)) j) = true then (fun _ => false) j else m_pm t j) → (∀ j, N1 j = if (decide (j < i) && (fun j => decide (j < m_md t)) j) = true then (fun _ => false) j else m_nd t j) → ∀ (H : Heap) (locs : List Loc), k_H g ad (set_m_nd (set_m_pm t P1) N1) H → va_S (k_A g) s.heap H locs → ∀ (ls : Array Slot), lv_has ls 4 [(0, .ref (ad 9 0)), (1, .int (nI 0)), (2, .int (nI i))] → W p l e rm_X5_marks s m args below meth c H locs 0 0 Q (F0 m 4 ls []) := by
    intro n
    induction n with
    | zero =>
      intro i P1 N1 hfu hi hP1 hN1
      exact absurd hfu (by omega)
    | succ n ih =>
      intro i P1 N1 hfu hi hP1 hN1 H locs hW hS ls hl
      refine lv_iload_n hx hb dX5_marks_4 rfl (lv_at hl 2 rfl) ?_
      refine lv_aload_n hx hb dX5_marks_5 rfl (lv_at hl 0 rfl) ?_
      refine k_get (own := RX5) (C := RX5) (T := TX5) (N := 21) hx hb hts hinX5 hown hK hW (kc_9 g ad (set_m_nd (set_m_pm t P1) N1)) rfl 12 (by decide) (hts (.fieldLink RX5 66 "DrillVaultModel" "made" "I") (by decide +kernel)) rfl (v := .int (nI (m_md t))) rfl dX5_marks_6 ?_
      refine k_icmp_ge (tgt := 32) hx hb (a := i) (b := m_md t) (by omega) (by omega) dX5_marks_9 (by decide) (fun h_9 => ?_) (fun h_9 => ?_)
      · have hPe := k_rs_e hP1 k_lmw (show m_md t ≤ i by omega); have hNe := k_rs_e hN1 k_lmw (show m_md t ≤ i by omega)
        subst hPe; subst hNe
        have hW : k_H g ad (set_m_nd (set_m_pm t (fun j => if decide (j < m_md t) = true then false else m_pm t j)) (fun j => if decide (j < m_md t) = true then false else m_nd t j)) H := hW
        refine lv_aload_n hx hb dX5_marks_32 rfl (lv_at hl 0 rfl) ?_
        refine lv_iconst (v := nI 1) hx hb dX5_marks_33 (by decide) ?_
        refine lv_aload_n hx hb dX5_marks_34 rfl (lv_at hl 0 rfl) ?_
        refine k_get (own := RX5) (C := RX5) (T := TX5) (N := 21) hx hb hts hinX5 hown hK hW (kc_9 g ad (set_m_nd (set_m_pm t (fun j => if decide (j < m_md t) = true then false else m_pm t j)) (fun j => if decide (j < m_md t) = true then false else m_nd t j))) rfl 13 (by decide) (hts (.fieldLink RX5 41 "DrillVaultModel" "dayRule" "I") (by decide +kernel)) rfl (v := .int (nI (m_r1 t))) rfl dX5_marks_35 ?_
        refine k_cv (va_runV (As := [.int (nI 1), .int (nI (m_r1 t))]) (rest := []) ⟨hx, hb, hml, hown, hts⟩ (c_X5_promises_0 l hlt g ad (set_m_nd (set_m_pm t (fun j => if decide (j < m_md t) = true then false else m_pm t j)) (fun j => if decide (j < m_md t) = true then false else m_nd t j)) (m_r1 t) hr1 hm60 hmo) (cwV 2 hts gX5_marks_X5_promises rfl rfl rfl (by decide +kernel) ⟨(Nat.le_of_ble_eq_true rfl), (Nat.le_of_ble_eq_true rfl)⟩) ⟨k_blind, k_recv hK hW (kc_9 g ad (set_m_nd (set_m_pm t (fun j => if decide (j < m_md t) = true then false else m_pm t j)) (fun j => if decide (j < m_md t) = true then false else m_nd t j))) rfl, fun U hU hw => ⟨rfl, k_I.of hK hZ hN hS hW hU hw⟩⟩ rfl rfl hl.1 rfl (lv_room (Nat.le_of_ble_eq_true rfl)) dX5_marks_38 ⟨(Nat.le_of_ble_eq_true rfl), (Nat.le_of_ble_eq_true rfl)⟩) hS (fun u H locs hpo hW hS => ?_)
        have hu9 := hpo.symm; subst hu9
        have hW : k_H g ad (set_m_pm (set_m_nd t (fun j => if decide (j < m_md t) = true then false else m_nd t j)) (fun j9 => (fun j => if decide (j < m_md t) = true then false else m_pm t j) j9 || k_sel (m_th t) (fun j => k_pd 0 (m_on t j)) (m_md t) (m_r1 t) (-1) j9)) H := hW
        refine lv_aload_n hx hb dX5_marks_41 rfl (lv_at hl 0 rfl) ?_
        refine lv_bipush (v := nI 7) hx hb dX5_marks_42 (by decide) ?_
        refine lv_aload_n hx hb dX5_marks_44 rfl (lv_at hl 0 rfl) ?_
        refine k_get (own := RX5) (C := RX5) (T := TX5) (N := 21) hx hb hts hinX5 hown hK hW (kc_9 g ad (set_m_pm (set_m_nd t (fun j => if decide (j < m_md t) = true then false else m_nd t j)) (fun j9 => (fun j => if decide (j < m_md t) = true then false else m_pm t j) j9 || k_sel (m_th t) (fun j => k_pd 0 (m_on t j)) (m_md t) (m_r1 t) (-1) j9))) rfl 14 (by decide) (hts (.fieldLink RX5 45 "DrillVaultModel" "weekRule" "I") (by decide +kernel)) rfl (v := .int (nI (m_r2 t))) rfl dX5_marks_45 ?_
        refine k_cv (va_runV (As := [.int (nI 7), .int (nI (m_r2 t))]) (rest := []) ⟨hx, hb, hml, hown, hts⟩ (c_X5_promises_1 l hlt g ad (set_m_pm (set_m_nd t (fun j => if decide (j < m_md t) = true then false else m_nd t j)) (fun j9 => (fun j => if decide (j < m_md t) = true then false else m_pm t j) j9 || k_sel (m_th t) (fun j => k_pd 0 (m_on t j)) (m_md t) (m_r1 t) (-1) j9)) (m_r2 t) hr2 hm60 hmo) (cwV 2 hts gX5_marks_X5_promises rfl rfl rfl (by decide +kernel) ⟨(Nat.le_of_ble_eq_true rfl), (Nat.le_of_ble_eq_true rfl)⟩) ⟨k_blind, k_recv hK hW (kc_9 g ad (set_m_pm (set_m_nd t (fun j => if decide (j < m_md t) = true then false else m_nd t j)) (fun j9 => (fun j => if decide (j < m_md t) = true then false else m_pm t j) j9 || k_sel (m_th t) (fun j => k_pd 0 (m_on t j)) (m_md t) (m_r1 t) (-1) j9))) rfl, fun U hU hw => ⟨rfl, k_I.of hK hZ hN hS hW hU hw⟩⟩ rfl rfl hl.1 rfl (lv_room (Nat.le_of_ble_eq_true rfl)) dX5_marks_48 ⟨(Nat.le_of_ble_eq_true rfl), (Nat.le_of_ble_eq_true rfl)⟩) hS (fun u H locs hpo hW hS => ?_)
        have hu9 := hpo.symm; subst hu9
        have hW : k_H g ad (set_m_pm (set_m_nd t (fun j => if decide (j < m_md t) = true then false else m_nd t j)) (fun j9 => (fun j9 => (fun j => if decide (j < m_md t) = true then false else m_pm t j) j9 || k_sel (m_th t) (fun j => k_pd 0 (m_on t j)) (m_md t) (m_r1 t) (-1) j9) j9 || k_sel (m_th t) (fun j => k_pd 1 (m_on t j)) (m_md t) (m_r2 t) (-1) j9)) H := hW
        refine lv_aload_n hx hb dX5_marks_51 rfl (lv_at hl 0 rfl) ?_
        refine lv_bipush (v := nI 28) hx hb dX5_marks_52 (by decide) ?_
        refine lv_aload_n hx hb dX5_marks_54 rfl (lv_at hl 0 rfl) ?_
        refine k_get (own := RX5) (C := RX5) (T := TX5) (N := 21) hx hb hts hinX5 hown hK hW (kc_9 g ad (set_m_pm (set_m_nd t (fun j => if decide (j < m_md t) = true then false else m_nd t j)) (fun j9 => (fun j9 => (fun j => if decide (j < m_md t) = true then false else m_pm t j) j9 || k_sel (m_th t) (fun j => k_pd 0 (m_on t j)) (m_md t) (m_r1 t) (-1) j9) j9 || k_sel (m_th t) (fun j => k_pd 1 (m_on t j)) (m_md t) (m_r2 t) (-1) j9))) rfl 15 (by decide) (hts (.fieldLink RX5 48 "DrillVaultModel" "monthRule" "I") (by decide +kernel)) rfl (v := .int (nI (m_r3 t))) rfl dX5_marks_55 ?_
        refine k_cv (va_runV (As := [.int (nI 28), .int (nI (m_r3 t))]) (rest := []) ⟨hx, hb, hml, hown, hts⟩ (c_X5_promises_2 l hlt g ad (set_m_pm (set_m_nd t (fun j => if decide (j < m_md t) = true then false else m_nd t j)) (fun j9 => (fun j9 => (fun j => if decide (j < m_md t) = true then false else m_pm t j) j9 || k_sel (m_th t) (fun j => k_pd 0 (m_on t j)) (m_md t) (m_r1 t) (-1) j9) j9 || k_sel (m_th t) (fun j => k_pd 1 (m_on t j)) (m_md t) (m_r2 t) (-1) j9)) (m_r3 t) hr3 hm60 hmo) (cwV 2 hts gX5_marks_X5_promises rfl rfl rfl (by decide +kernel) ⟨(Nat.le_of_ble_eq_true rfl), (Nat.le_of_ble_eq_true rfl)⟩) ⟨k_blind, k_recv hK hW (kc_9 g ad (set_m_pm (set_m_nd t (fun j => if decide (j < m_md t) = true then false else m_nd t j)) (fun j9 => (fun j9 => (fun j => if decide (j < m_md t) = true then false else m_pm t j) j9 || k_sel (m_th t) (fun j => k_pd 0 (m_on t j)) (m_md t) (m_r1 t) (-1) j9) j9 || k_sel (m_th t) (fun j => k_pd 1 (m_on t j)) (m_md t) (m_r2 t) (-1) j9))) rfl, fun U hU hw => ⟨rfl, k_I.of hK hZ hN hS hW hU hw⟩⟩ rfl rfl hl.1 rfl (lv_room (Nat.le_of_ble_eq_true rfl)) dX5_marks_58 ⟨(Nat.le_of_ble_eq_true rfl), (Nat.le_of_ble_eq_true rfl)⟩) hS (fun u H locs hpo hW hS => ?_)
        have hu9 := hpo.symm; subst hu9
        have hW : k_H g ad (set_m_pm (set_m_nd t (fun j => if decide (j < m_md t) = true then false else m_nd t j)) (fun j9 => (fun j9 => (fun j9 => (fun j => if decide (j < m_md t) = true then false else m_pm t j) j9 || k_sel (m_th t) (fun j => k_pd 0 (m_on t j)) (m_md t) (m_r1 t) (-1) j9) j9 || k_sel (m_th t) (fun j => k_pd 1 (m_on t j)) (m_md t) (m_r2 t) (-1) j9) j9 || k_sel (m_th t) (fun j => k_pd 2 (m_on t j)) (m_md t) (m_r3 t) (-1) j9)) H := hW
        sorry
      · refine lv_aload_n hx hb dX5_marks_12 rfl (lv_at hl 0 rfl) ?_
        refine k_get (own := RX5) (C := RX5) (T := TX5) (N := 21) hx hb hts hinX5 hown hK hW (kc_9 g ad (set_m_nd (set_m_pm t P1) N1)) rfl 16 (by decide) (hts (.fieldLink RX5 51 "DrillVaultModel" "promised" "[Z") (by decide +kernel)) rfl (v := .ref (ad 20 0)) rfl dX5_marks_13 ?_
        refine lv_iload_n hx hb dX5_marks_16 rfl (lv_at hl 2 rfl) ?_
        refine lv_iconst (v := nI 0) hx hb dX5_marks_17 (by decide) ?_
        refine k_zast hx hb hK hW hS (kc_20 g ad (set_m_nd (set_m_pm t P1) N1)) rfl i rfl (by omega) (by decide) dX5_marks_18 (fun H locs hW hS => ?_)
        have hW : k_H g ad (set_m_pm (set_m_nd t N1) (va_up P1 i false)) H := kt_m_pm (t := set_m_nd (set_m_pm t P1) N1) i false rfl hW
        refine lv_aload_n hx hb dX5_marks_19 rfl (lv_at hl 0 rfl) ?_
        refine k_get (own := RX5) (C := RX5) (T := TX5) (N := 21) hx hb hts hinX5 hown hK hW (kc_9 g ad (set_m_pm (set_m_nd t N1) (va_up P1 i false))) rfl 17 (by decide) (hts (.fieldLink RX5 54 "DrillVaultModel" "needed" "[Z") (by decide +kernel)) rfl (v := .ref (ad 21 0)) rfl dX5_marks_20 ?_
        refine lv_iload_n hx hb dX5_marks_23 rfl (lv_at hl 2 rfl) ?_
        refine lv_iconst (v := nI 0) hx hb dX5_marks_24 (by decide) ?_
        refine k_zast hx hb hK hW hS (kc_21 g ad (set_m_pm (set_m_nd t N1) (va_up P1 i false))) rfl i rfl (by omega) (by decide) dX5_marks_25 (fun H locs hW hS => ?_)
        have hW : k_H g ad (set_m_nd (set_m_pm t (va_up P1 i false)) (va_up N1 i false)) H := kt_m_nd (t := set_m_pm (set_m_nd t N1) (va_up P1 i false)) i false rfl hW
        refine lv_iinc (v := nI (i + 1)) (lv' := [(2, .int (nI (i + 1))), (0, .ref (ad 9 0)), (1, .int (nI 0))]) hx hb dX5_marks_26 hl (k := 2) rfl (nI_add _ _) (by decide) rfl (fun ls hl => ?_)
        refine lv_goto (tgt := 4) hx hb dX5_marks_29 (by decide) ?_
        exact ih (i + 1) (va_up P1 i false) (va_up N1 i false) (by omega) (by omega) (k_rs hP1 (k_lm h_9) rfl) (k_rs hN1 (k_lm h_9) rfl) _ _ hW hS _ (lv_sub hl [1, 2, 0] rfl)
  exact hloop_4 (m_md t + 1) 0 (m_pm t) (m_nd t) (by omega) (by omega) k_rs_0 k_rs_0 _ _ hW hS _ (lv_sub hl [2, 1, 0] rfl)
set_option maxRecDepth 100000 in
set_option maxHeartbeats 4000000 in
theorem c_X5_marks_try2 (l : Launch) (hlt : l.stackTraces = false) (g : k_g) (ad : k_AD) (t : k_T) (hm60 : m_md t ≤ 60) (hmb : ∀ k b, k < m_md t → m_b t k = some b → b < k) (hmo : ∀ j, j < m_md t → m_on t j ≤ 360) (hr1 : m_r1 t ≤ 30) (hr2 : m_r2 t ≤ 30) (hr3 : m_r3 t ≤ 30) : Met l yX5_marks wsX5_marks rm_X5_marks (va_Pc [.ref (ad 9 0)] (k_I g (k_ct g ad t) ad)) (va_Qi (fun r u => r = nI (k_cb (k_PmM (m_md t) (m_th t) (m_pm t) (m_on t) (m_r1 t) (m_r2 t) (m_r3 t)) (m_md t)) ∧ u = set_m_nd (set_m_pm t (k_PmM (m_md t) (m_th t) (m_pm t) (m_on t) (m_r1 t) (m_r2 t) (m_r3 t))) (k_NmM (m_md t) (m_nd t) (k_PmM (m_md t) (m_th t) (m_pm t) (m_on t) (m_r1 t) (m_r2 t) (m_r3 t)) (m_b t))) (fun u U => k_H g ad u U.heap) (k_A g)) 0 0 (k_A g) := by
  refine k_met (cc := cX5_marks) (maxL := 4) (ret := (some .int)) (by decide) rfl (Nat.le_of_ble_eq_true rfl) (fun p e s m args below meth c Q ls hQ hx hb hr hml hts hown hlk hin hK hZ hN hW hS hl => ?_)
  have hown : s.vm.findClass RX5 = some m.cls := hown
  have hW : k_H g ad t s.heap := hW
  have hl : lv_has ls 4 [(0, .ref (ad 9 0))] := hl
  have hinX5 : ∀ w ∈ wsX50, w ∈ wsX5_marks := by decide +kernel
  refine lv_iconst (v := nI 0) hx hb dX5_marks_0 (by decide) ?_
  refine lv_istore_n (lv' := [(1, .int (nI 0)), (0, .ref (ad 9 0))]) hx hb dX5_marks_1 rfl hl (by decide) rfl (fun ls hl => ?_)
  refine lv_iconst (v := nI 0) hx hb dX5_marks_2 (by decide) ?_
  refine lv_istore_n (lv' := [(2, .int (nI 0)), (1, .int (nI 0)), (0, .ref (ad 9 0))]) hx hb dX5_marks_3 rfl hl (by decide) rfl (fun ls hl => ?_)
  have hloop_4 : ∀ (n : Nat) (i : Nat) (P1 : Nat → Bool) (N1 : Nat → Bool), (m_md t < i + n) → (i ≤ m_md t) → (∀ j, P1 j = if (decide (j < i) && (fun j => decide (j < m_md t)) j) = true then (fun _ => false) j else m_pm t j) → (∀ j, N1 j = if (decide (j < i) && (fun j => decide (j < m_md t)) j) = true then (fun _ => false) j else m_nd t j) → ∀ (H : Heap) (locs : List Loc), k_H g ad (set_m_nd (set_m_pm t P1) N1) H → va_S (k_A g) s.heap H locs → ∀ (ls : Array Slot), lv_has ls 4 [(0, .ref (ad 9 0)), (1, .int (nI 0)), (2, .int (nI i))] → W p l e rm_X5_marks s m args below meth c H locs 0 0 Q (F0 m 4 ls []) := by
    intro n
    induction n with
    | zero =>
      intro i P1 N1 hfu hi hP1 hN1
      exact absurd hfu (by omega)
    | succ n ih =>
      intro i P1 N1 hfu hi hP1 hN1 H locs hW hS ls hl
      refine lv_iload_n hx hb dX5_marks_4 rfl (lv_at hl 2 rfl) ?_
      refine lv_aload_n hx hb dX5_marks_5 rfl (lv_at hl 0 rfl) ?_
      refine k_get (own := RX5) (C := RX5) (T := TX5) (N := 21) hx hb hts hinX5 hown hK hW (kc_9 g ad (set_m_nd (set_m_pm t P1) N1)) rfl 12 (by decide) (hts (.fieldLink RX5 66 "DrillVaultModel" "made" "I") (by decide +kernel)) rfl (v := .int (nI (m_md t))) rfl dX5_marks_6 ?_
      refine k_icmp_ge (tgt := 32) hx hb (a := i) (b := m_md t) (by omega) (by omega) dX5_marks_9 (by decide) (fun h_9 => ?_) (fun h_9 => ?_)
      · have hPe := k_rs_e hP1 k_lmw (show m_md t ≤ i by omega); have hNe := k_rs_e hN1 k_lmw (show m_md t ≤ i by omega)
        subst hPe; subst hNe
        have hW : k_H g ad (set_m_nd (set_m_pm t (fun j => if decide (j < m_md t) = true then false else m_pm t j)) (fun j => if decide (j < m_md t) = true then false else m_nd t j)) H := hW
        refine lv_aload_n hx hb dX5_marks_32 rfl (lv_at hl 0 rfl) ?_
        refine lv_iconst (v := nI 1) hx hb dX5_marks_33 (by decide) ?_
        refine lv_aload_n hx hb dX5_marks_34 rfl (lv_at hl 0 rfl) ?_
        refine k_get (own := RX5) (C := RX5) (T := TX5) (N := 21) hx hb hts hinX5 hown hK hW (kc_9 g ad (set_m_nd (set_m_pm t (fun j => if decide (j < m_md t) = true then false else m_pm t j)) (fun j => if decide (j < m_md t) = true then false else m_nd t j))) rfl 13 (by decide) (hts (.fieldLink RX5 41 "DrillVaultModel" "dayRule" "I") (by decide +kernel)) rfl (v := .int (nI (m_r1 t))) rfl dX5_marks_35 ?_
        refine k_cv (va_runV (As := [.int (nI 1), .int (nI (m_r1 t))]) (rest := []) ⟨hx, hb, hml, hown, hts⟩ (c_X5_promises_0 l hlt g ad (set_m_nd (set_m_pm t (fun j => if decide (j < m_md t) = true then false else m_pm t j)) (fun j => if decide (j < m_md t) = true then false else m_nd t j)) (m_r1 t) hr1 hm60 hmo) (cwV 2 hts gX5_marks_X5_promises rfl rfl rfl (by decide +kernel) ⟨(Nat.le_of_ble_eq_true rfl), (Nat.le_of_ble_eq_true rfl)⟩) ⟨k_blind, k_recv hK hW (kc_9 g ad (set_m_nd (set_m_pm t (fun j => if decide (j < m_md t) = true then false else m_pm t j)) (fun j => if decide (j < m_md t) = true then false else m_nd t j))) rfl, fun U hU hw => ⟨rfl, k_I.of hK hZ hN hS hW hU hw⟩⟩ rfl rfl hl.1 rfl (lv_room (Nat.le_of_ble_eq_true rfl)) dX5_marks_38 ⟨(Nat.le_of_ble_eq_true rfl), (Nat.le_of_ble_eq_true rfl)⟩) hS (fun u H locs hpo hW hS => ?_)
        have hu9 := hpo.symm; subst hu9
        have hW : k_H g ad (set_m_pm (set_m_nd t (fun j => if decide (j < m_md t) = true then false else m_nd t j)) (fun j9 => (fun j => if decide (j < m_md t) = true then false else m_pm t j) j9 || k_sel (m_th t) (fun j => k_pd 0 (m_on t j)) (m_md t) (m_r1 t) (-1) j9)) H := hW
        refine lv_aload_n hx hb dX5_marks_41 rfl (lv_at hl 0 rfl) ?_
        refine lv_bipush (v := nI 7) hx hb dX5_marks_42 (by decide) ?_
        refine lv_aload_n hx hb dX5_marks_44 rfl (lv_at hl 0 rfl) ?_
        refine k_get (own := RX5) (C := RX5) (T := TX5) (N := 21) hx hb hts hinX5 hown hK hW (kc_9 g ad (set_m_pm (set_m_nd t (fun j => if decide (j < m_md t) = true then false else m_nd t j)) (fun j9 => (fun j => if decide (j < m_md t) = true then false else m_pm t j) j9 || k_sel (m_th t) (fun j => k_pd 0 (m_on t j)) (m_md t) (m_r1 t) (-1) j9))) rfl 14 (by decide) (hts (.fieldLink RX5 45 "DrillVaultModel" "weekRule" "I") (by decide +kernel)) rfl (v := .int (nI (m_r2 t))) rfl dX5_marks_45 ?_
        refine k_cv (va_runV (As := [.int (nI 7), .int (nI (m_r2 t))]) (rest := []) ⟨hx, hb, hml, hown, hts⟩ (c_X5_promises_1 l hlt g ad (set_m_pm (set_m_nd t (fun j => if decide (j < m_md t) = true then false else m_nd t j)) (fun j9 => (fun j => if decide (j < m_md t) = true then false else m_pm t j) j9 || k_sel (m_th t) (fun j => k_pd 0 (m_on t j)) (m_md t) (m_r1 t) (-1) j9)) (m_r2 t) hr2 hm60 hmo) (cwV 2 hts gX5_marks_X5_promises rfl rfl rfl (by decide +kernel) ⟨(Nat.le_of_ble_eq_true rfl), (Nat.le_of_ble_eq_true rfl)⟩) ⟨k_blind, k_recv hK hW (kc_9 g ad (set_m_pm (set_m_nd t (fun j => if decide (j < m_md t) = true then false else m_nd t j)) (fun j9 => (fun j => if decide (j < m_md t) = true then false else m_pm t j) j9 || k_sel (m_th t) (fun j => k_pd 0 (m_on t j)) (m_md t) (m_r1 t) (-1) j9))) rfl, fun U hU hw => ⟨rfl, k_I.of hK hZ hN hS hW hU hw⟩⟩ rfl rfl hl.1 rfl (lv_room (Nat.le_of_ble_eq_true rfl)) dX5_marks_48 ⟨(Nat.le_of_ble_eq_true rfl), (Nat.le_of_ble_eq_true rfl)⟩) hS (fun u H locs hpo hW hS => ?_)
        have hu9 := hpo.symm; subst hu9
        have hW : k_H g ad (set_m_pm (set_m_nd t (fun j => if decide (j < m_md t) = true then false else m_nd t j)) (fun j9 => (fun j9 => (fun j => if decide (j < m_md t) = true then false else m_pm t j) j9 || k_sel (m_th t) (fun j => k_pd 0 (m_on t j)) (m_md t) (m_r1 t) (-1) j9) j9 || k_sel (m_th t) (fun j => k_pd 1 (m_on t j)) (m_md t) (m_r2 t) (-1) j9)) H := hW
        refine lv_aload_n hx hb dX5_marks_51 rfl (lv_at hl 0 rfl) ?_
        refine lv_bipush (v := nI 28) hx hb dX5_marks_52 (by decide) ?_
        refine lv_aload_n hx hb dX5_marks_54 rfl (lv_at hl 0 rfl) ?_
        refine k_get (own := RX5) (C := RX5) (T := TX5) (N := 21) hx hb hts hinX5 hown hK hW (kc_9 g ad (set_m_pm (set_m_nd t (fun j => if decide (j < m_md t) = true then false else m_nd t j)) (fun j9 => (fun j9 => (fun j => if decide (j < m_md t) = true then false else m_pm t j) j9 || k_sel (m_th t) (fun j => k_pd 0 (m_on t j)) (m_md t) (m_r1 t) (-1) j9) j9 || k_sel (m_th t) (fun j => k_pd 1 (m_on t j)) (m_md t) (m_r2 t) (-1) j9))) rfl 15 (by decide) (hts (.fieldLink RX5 48 "DrillVaultModel" "monthRule" "I") (by decide +kernel)) rfl (v := .int (nI (m_r3 t))) rfl dX5_marks_55 ?_
        refine k_cv (va_runV (As := [.int (nI 28), .int (nI (m_r3 t))]) (rest := []) ⟨hx, hb, hml, hown, hts⟩ (c_X5_promises_2 l hlt g ad (set_m_pm (set_m_nd t (fun j => if decide (j < m_md t) = true then false else m_nd t j)) (fun j9 => (fun j9 => (fun j => if decide (j < m_md t) = true then false else m_pm t j) j9 || k_sel (m_th t) (fun j => k_pd 0 (m_on t j)) (m_md t) (m_r1 t) (-1) j9) j9 || k_sel (m_th t) (fun j => k_pd 1 (m_on t j)) (m_md t) (m_r2 t) (-1) j9)) (m_r3 t) hr3 hm60 hmo) (cwV 2 hts gX5_marks_X5_promises rfl rfl rfl (by decide +kernel) ⟨(Nat.le_of_ble_eq_true rfl), (Nat.le_of_ble_eq_true rfl)⟩) ⟨k_blind, k_recv hK hW (kc_9 g ad (set_m_pm (set_m_nd t (fun j => if decide (j < m_md t) = true then false else m_nd t j)) (fun j9 => (fun j9 => (fun j => if decide (j < m_md t) = true then false else m_pm t j) j9 || k_sel (m_th t) (fun j => k_pd 0 (m_on t j)) (m_md t) (m_r1 t) (-1) j9) j9 || k_sel (m_th t) (fun j => k_pd 1 (m_on t j)) (m_md t) (m_r2 t) (-1) j9))) rfl, fun U hU hw => ⟨rfl, k_I.of hK hZ hN hS hW hU hw⟩⟩ rfl rfl hl.1 rfl (lv_room (Nat.le_of_ble_eq_true rfl)) dX5_marks_58 ⟨(Nat.le_of_ble_eq_true rfl), (Nat.le_of_ble_eq_true rfl)⟩) hS (fun u H locs hpo hW hS => ?_)
        have hu9 := hpo.symm; subst hu9
        have hW : k_H g ad (set_m_pm (set_m_nd t (fun j => if decide (j < m_md t) = true then false else m_nd t j)) (fun j9 => (fun j9 => (fun j9 => (fun j => if decide (j < m_md t) = true then false else m_pm t j) j9 || k_sel (m_th t) (fun j => k_pd 0 (m_on t j)) (m_md t) (m_r1 t) (-1) j9) j9 || k_sel (m_th t) (fun j => k_pd 1 (m_on t j)) (m_md t) (m_r2 t) (-1) j9) j9 || k_sel (m_th t) (fun j => k_pd 2 (m_on t j)) (m_md t) (m_r3 t) (-1) j9)) H := hW
        have hW : k_H g ad (set_m_nd (set_m_pm t (k_PmM (m_md t) (m_th t) (m_pm t) (m_on t) (m_r1 t) (m_r2 t) (m_r3 t))) (fun j => if decide (j < m_md t) = true then false else m_nd t j)) H := by
          rw [show (k_PmM (m_md t) (m_th t) (m_pm t) (m_on t) (m_r1 t) (m_r2 t) (m_r3 t)) = (fun j9 => (fun j9 => (fun j9 => (fun j => if decide (j < m_md t) = true then false else m_pm t j) j9 || k_sel (m_th t) (fun j => k_pd 0 (m_on t j)) (m_md t) (m_r1 t) (-1) j9) j9 || k_sel (m_th t) (fun j => k_pd 1 (m_on t j)) (m_md t) (m_r2 t) (-1) j9) j9 || k_sel (m_th t) (fun j => k_pd 2 (m_on t j)) (m_md t) (m_r3 t) (-1) j9) from funext fun j => by simp only [k_PmM, k_P, Bool.or_assoc]]; exact hW
        refine lv_iconst (v := nI 0) hx hb dX5_marks_61 (by decide) ?_
        refine lv_istore_n (lv' := [(2, .int (nI 0)), (0, .ref (ad 9 0)), (1, .int (nI 0))]) hx hb dX5_marks_62 rfl hl (by decide) rfl (fun ls hl => ?_)
        have hloop_63 : ∀ (n : Nat) (i : Nat) (cn : Nat) (N1 : Nat → Bool), (m_md t < i + n) → (i ≤ m_md t) → (cn = k_cb (k_PmM (m_md t) (m_th t) (m_pm t) (m_on t) (m_r1 t) (m_r2 t) (m_r3 t)) i) → (∀ j, N1 j = ((fun j => if decide (j < m_md t) = true then false else m_nd t j) j || k_nd (fun _ => true) (k_PmM (m_md t) (m_th t) (m_pm t) (m_on t) (m_r1 t) (m_r2 t) (m_r3 t)) (m_b t) i j)) → ∀ (H : Heap) (locs : List Loc), k_H g ad (set_m_nd (set_m_pm t (k_PmM (m_md t) (m_th t) (m_pm t) (m_on t) (m_r1 t) (m_r2 t) (m_r3 t))) N1) H → va_S (k_A g) s.heap H locs → ∀ (ls : Array Slot), lv_has ls 4 [(0, .ref (ad 9 0)), (1, .int (nI cn)), (2, .int (nI i))] → W p l e rm_X5_marks s m args below meth c H locs 0 0 Q (F0 m 63 ls []) := by
          intro n
          induction n with
          | zero =>
            intro i cn N1 hfu hi hcn hN1
            exact absurd hfu (by omega)
          | succ n ih_63 =>
            intro i cn N1 hfu hi hcn hN1 H locs hW hS ls hl
            refine lv_iload_n hx hb dX5_marks_63 rfl (lv_at hl 2 rfl) ?_
            refine lv_aload_n hx hb dX5_marks_64 rfl (lv_at hl 0 rfl) ?_
            refine k_get (own := RX5) (C := RX5) (T := TX5) (N := 21) hx hb hts hinX5 hown hK hW (kc_9 g ad (set_m_nd (set_m_pm t (k_PmM (m_md t) (m_th t) (m_pm t) (m_on t) (m_r1 t) (m_r2 t) (m_r3 t))) N1)) rfl 12 (by decide) (hts (.fieldLink RX5 66 "DrillVaultModel" "made" "I") (by decide +kernel)) rfl (v := .int (nI (m_md t))) rfl dX5_marks_65 ?_
            refine k_icmp_ge (tgt := 127) hx hb (a := i) (b := m_md t) (by omega) (by omega) dX5_marks_68 (by decide) (fun h_68 => ?_) (fun h_68 => ?_)
            · refine lv_iload_n hx hb dX5_marks_127 rfl (lv_at hl 1 rfl) ?_
              exact k_ri hQ hx hb hr hlk hS hW ⟨by rw [hcn, show i = m_md t by omega], by rw [show N1 = (k_NmM (m_md t) (m_nd t) (k_PmM (m_md t) (m_th t) (m_pm t) (m_on t) (m_r1 t) (m_r2 t) (m_r3 t)) (m_b t)) from funext fun j => by rw [hN1 j, show i = m_md t by omega]; rfl]⟩ (Nat.le_of_ble_eq_true rfl) (Nat.le_of_ble_eq_true rfl) dX5_marks_128
            · sorry
        exact hloop_63 (m_md t + 1) 0 0 ((fun j => if decide (j < m_md t) = true then false else m_nd t j)) (by omega) (by omega) rfl (fun j => (Bool.or_false _).symm) _ _ hW hS _ (lv_sub hl [1, 2, 0] rfl)
      · refine lv_aload_n hx hb dX5_marks_12 rfl (lv_at hl 0 rfl) ?_
        refine k_get (own := RX5) (C := RX5) (T := TX5) (N := 21) hx hb hts hinX5 hown hK hW (kc_9 g ad (set_m_nd (set_m_pm t P1) N1)) rfl 16 (by decide) (hts (.fieldLink RX5 51 "DrillVaultModel" "promised" "[Z") (by decide +kernel)) rfl (v := .ref (ad 20 0)) rfl dX5_marks_13 ?_
        refine lv_iload_n hx hb dX5_marks_16 rfl (lv_at hl 2 rfl) ?_
        refine lv_iconst (v := nI 0) hx hb dX5_marks_17 (by decide) ?_
        refine k_zast hx hb hK hW hS (kc_20 g ad (set_m_nd (set_m_pm t P1) N1)) rfl i rfl (by omega) (by decide) dX5_marks_18 (fun H locs hW hS => ?_)
        have hW : k_H g ad (set_m_pm (set_m_nd t N1) (va_up P1 i false)) H := kt_m_pm (t := set_m_nd (set_m_pm t P1) N1) i false rfl hW
        refine lv_aload_n hx hb dX5_marks_19 rfl (lv_at hl 0 rfl) ?_
        refine k_get (own := RX5) (C := RX5) (T := TX5) (N := 21) hx hb hts hinX5 hown hK hW (kc_9 g ad (set_m_pm (set_m_nd t N1) (va_up P1 i false))) rfl 17 (by decide) (hts (.fieldLink RX5 54 "DrillVaultModel" "needed" "[Z") (by decide +kernel)) rfl (v := .ref (ad 21 0)) rfl dX5_marks_20 ?_
        refine lv_iload_n hx hb dX5_marks_23 rfl (lv_at hl 2 rfl) ?_
        refine lv_iconst (v := nI 0) hx hb dX5_marks_24 (by decide) ?_
        refine k_zast hx hb hK hW hS (kc_21 g ad (set_m_pm (set_m_nd t N1) (va_up P1 i false))) rfl i rfl (by omega) (by decide) dX5_marks_25 (fun H locs hW hS => ?_)
        have hW : k_H g ad (set_m_nd (set_m_pm t (va_up P1 i false)) (va_up N1 i false)) H := kt_m_nd (t := set_m_pm (set_m_nd t N1) (va_up P1 i false)) i false rfl hW
        refine lv_iinc (v := nI (i + 1)) (lv' := [(2, .int (nI (i + 1))), (0, .ref (ad 9 0)), (1, .int (nI 0))]) hx hb dX5_marks_26 hl (k := 2) rfl (nI_add _ _) (by decide) rfl (fun ls hl => ?_)
        refine lv_goto (tgt := 4) hx hb dX5_marks_29 (by decide) ?_
        exact ih (i + 1) (va_up P1 i false) (va_up N1 i false) (by omega) (by omega) (k_rs hP1 (k_lm h_9) rfl) (k_rs hN1 (k_lm h_9) rfl) _ _ hW hS _ (lv_sub hl [1, 2, 0] rfl)
  exact hloop_4 (m_md t + 1) 0 (m_pm t) (m_nd t) (by omega) (by omega) k_rs_0 k_rs_0 _ _ hW hS _ (lv_sub hl [2, 1, 0] rfl)
set_option maxRecDepth 100000 in
set_option maxHeartbeats 4000000 in
theorem c_X5_marks_try3 (l : Launch) (hlt : l.stackTraces = false) (g : k_g) (ad : k_AD) (t : k_T) (hm60 : m_md t ≤ 60) (hmb : ∀ k b, k < m_md t → m_b t k = some b → b < k) (hmo : ∀ j, j < m_md t → m_on t j ≤ 360) (hr1 : m_r1 t ≤ 30) (hr2 : m_r2 t ≤ 30) (hr3 : m_r3 t ≤ 30) : Met l yX5_marks wsX5_marks rm_X5_marks (va_Pc [.ref (ad 9 0)] (k_I g (k_ct g ad t) ad)) (va_Qi (fun r u => r = nI (k_cb (k_PmM (m_md t) (m_th t) (m_pm t) (m_on t) (m_r1 t) (m_r2 t) (m_r3 t)) (m_md t)) ∧ u = set_m_nd (set_m_pm t (k_PmM (m_md t) (m_th t) (m_pm t) (m_on t) (m_r1 t) (m_r2 t) (m_r3 t))) (k_NmM (m_md t) (m_nd t) (k_PmM (m_md t) (m_th t) (m_pm t) (m_on t) (m_r1 t) (m_r2 t) (m_r3 t)) (m_b t))) (fun u U => k_H g ad u U.heap) (k_A g)) 0 0 (k_A g) := by
  refine k_met (cc := cX5_marks) (maxL := 4) (ret := (some .int)) (by decide) rfl (Nat.le_of_ble_eq_true rfl) (fun p e s m args below meth c Q ls hQ hx hb hr hml hts hown hlk hin hK hZ hN hW hS hl => ?_)
  have hown : s.vm.findClass RX5 = some m.cls := hown
  have hW : k_H g ad t s.heap := hW
  have hl : lv_has ls 4 [(0, .ref (ad 9 0))] := hl
  have hinX5 : ∀ w ∈ wsX50, w ∈ wsX5_marks := by decide +kernel
  refine lv_iconst (v := nI 0) hx hb dX5_marks_0 (by decide) ?_
  refine lv_istore_n (lv' := [(1, .int (nI 0)), (0, .ref (ad 9 0))]) hx hb dX5_marks_1 rfl hl (by decide) rfl (fun ls hl => ?_)
  refine lv_iconst (v := nI 0) hx hb dX5_marks_2 (by decide) ?_
  refine lv_istore_n (lv' := [(2, .int (nI 0)), (1, .int (nI 0)), (0, .ref (ad 9 0))]) hx hb dX5_marks_3 rfl hl (by decide) rfl (fun ls hl => ?_)
  have hloop_4 : ∀ (n : Nat) (i : Nat) (P1 : Nat → Bool) (N1 : Nat → Bool), (m_md t < i + n) → (i ≤ m_md t) → (∀ j, P1 j = if (decide (j < i) && (fun j => decide (j < m_md t)) j) = true then (fun _ => false) j else m_pm t j) → (∀ j, N1 j = if (decide (j < i) && (fun j => decide (j < m_md t)) j) = true then (fun _ => false) j else m_nd t j) → ∀ (H : Heap) (locs : List Loc), k_H g ad (set_m_nd (set_m_pm t P1) N1) H → va_S (k_A g) s.heap H locs → ∀ (ls : Array Slot), lv_has ls 4 [(0, .ref (ad 9 0)), (1, .int (nI 0)), (2, .int (nI i))] → W p l e rm_X5_marks s m args below meth c H locs 0 0 Q (F0 m 4 ls []) := by
    intro n
    induction n with
    | zero =>
      intro i P1 N1 hfu hi hP1 hN1
      exact absurd hfu (by omega)
    | succ n ih =>
      intro i P1 N1 hfu hi hP1 hN1 H locs hW hS ls hl
      refine lv_iload_n hx hb dX5_marks_4 rfl (lv_at hl 2 rfl) ?_
      refine lv_aload_n hx hb dX5_marks_5 rfl (lv_at hl 0 rfl) ?_
      refine k_get (own := RX5) (C := RX5) (T := TX5) (N := 21) hx hb hts hinX5 hown hK hW (kc_9 g ad (set_m_nd (set_m_pm t P1) N1)) rfl 12 (by decide) (hts (.fieldLink RX5 66 "DrillVaultModel" "made" "I") (by decide +kernel)) rfl (v := .int (nI (m_md t))) rfl dX5_marks_6 ?_
      refine k_icmp_ge (tgt := 32) hx hb (a := i) (b := m_md t) (by omega) (by omega) dX5_marks_9 (by decide) (fun h_9 => ?_) (fun h_9 => ?_)
      · have hPe := k_rs_e hP1 k_lmw (show m_md t ≤ i by omega); have hNe := k_rs_e hN1 k_lmw (show m_md t ≤ i by omega)
        subst hPe; subst hNe
        have hW : k_H g ad (set_m_nd (set_m_pm t (fun j => if decide (j < m_md t) = true then false else m_pm t j)) (fun j => if decide (j < m_md t) = true then false else m_nd t j)) H := hW
        refine lv_aload_n hx hb dX5_marks_32 rfl (lv_at hl 0 rfl) ?_
        refine lv_iconst (v := nI 1) hx hb dX5_marks_33 (by decide) ?_
        refine lv_aload_n hx hb dX5_marks_34 rfl (lv_at hl 0 rfl) ?_
        refine k_get (own := RX5) (C := RX5) (T := TX5) (N := 21) hx hb hts hinX5 hown hK hW (kc_9 g ad (set_m_nd (set_m_pm t (fun j => if decide (j < m_md t) = true then false else m_pm t j)) (fun j => if decide (j < m_md t) = true then false else m_nd t j))) rfl 13 (by decide) (hts (.fieldLink RX5 41 "DrillVaultModel" "dayRule" "I") (by decide +kernel)) rfl (v := .int (nI (m_r1 t))) rfl dX5_marks_35 ?_
        refine k_cv (va_runV (As := [.int (nI 1), .int (nI (m_r1 t))]) (rest := []) ⟨hx, hb, hml, hown, hts⟩ (c_X5_promises_0 l hlt g ad (set_m_nd (set_m_pm t (fun j => if decide (j < m_md t) = true then false else m_pm t j)) (fun j => if decide (j < m_md t) = true then false else m_nd t j)) (m_r1 t) hr1 hm60 hmo) (cwV 2 hts gX5_marks_X5_promises rfl rfl rfl (by decide +kernel) ⟨(Nat.le_of_ble_eq_true rfl), (Nat.le_of_ble_eq_true rfl)⟩) ⟨k_blind, k_recv hK hW (kc_9 g ad (set_m_nd (set_m_pm t (fun j => if decide (j < m_md t) = true then false else m_pm t j)) (fun j => if decide (j < m_md t) = true then false else m_nd t j))) rfl, fun U hU hw => ⟨rfl, k_I.of hK hZ hN hS hW hU hw⟩⟩ rfl rfl hl.1 rfl (lv_room (Nat.le_of_ble_eq_true rfl)) dX5_marks_38 ⟨(Nat.le_of_ble_eq_true rfl), (Nat.le_of_ble_eq_true rfl)⟩) hS (fun u H locs hpo hW hS => ?_)
        have hu9 := hpo.symm; subst hu9
        have hW : k_H g ad (set_m_pm (set_m_nd t (fun j => if decide (j < m_md t) = true then false else m_nd t j)) (fun j9 => (fun j => if decide (j < m_md t) = true then false else m_pm t j) j9 || k_sel (m_th t) (fun j => k_pd 0 (m_on t j)) (m_md t) (m_r1 t) (-1) j9)) H := hW
        refine lv_aload_n hx hb dX5_marks_41 rfl (lv_at hl 0 rfl) ?_
        refine lv_bipush (v := nI 7) hx hb dX5_marks_42 (by decide) ?_
        refine lv_aload_n hx hb dX5_marks_44 rfl (lv_at hl 0 rfl) ?_
        refine k_get (own := RX5) (C := RX5) (T := TX5) (N := 21) hx hb hts hinX5 hown hK hW (kc_9 g ad (set_m_pm (set_m_nd t (fun j => if decide (j < m_md t) = true then false else m_nd t j)) (fun j9 => (fun j => if decide (j < m_md t) = true then false else m_pm t j) j9 || k_sel (m_th t) (fun j => k_pd 0 (m_on t j)) (m_md t) (m_r1 t) (-1) j9))) rfl 14 (by decide) (hts (.fieldLink RX5 45 "DrillVaultModel" "weekRule" "I") (by decide +kernel)) rfl (v := .int (nI (m_r2 t))) rfl dX5_marks_45 ?_
        refine k_cv (va_runV (As := [.int (nI 7), .int (nI (m_r2 t))]) (rest := []) ⟨hx, hb, hml, hown, hts⟩ (c_X5_promises_1 l hlt g ad (set_m_pm (set_m_nd t (fun j => if decide (j < m_md t) = true then false else m_nd t j)) (fun j9 => (fun j => if decide (j < m_md t) = true then false else m_pm t j) j9 || k_sel (m_th t) (fun j => k_pd 0 (m_on t j)) (m_md t) (m_r1 t) (-1) j9)) (m_r2 t) hr2 hm60 hmo) (cwV 2 hts gX5_marks_X5_promises rfl rfl rfl (by decide +kernel) ⟨(Nat.le_of_ble_eq_true rfl), (Nat.le_of_ble_eq_true rfl)⟩) ⟨k_blind, k_recv hK hW (kc_9 g ad (set_m_pm (set_m_nd t (fun j => if decide (j < m_md t) = true then false else m_nd t j)) (fun j9 => (fun j => if decide (j < m_md t) = true then false else m_pm t j) j9 || k_sel (m_th t) (fun j => k_pd 0 (m_on t j)) (m_md t) (m_r1 t) (-1) j9))) rfl, fun U hU hw => ⟨rfl, k_I.of hK hZ hN hS hW hU hw⟩⟩ rfl rfl hl.1 rfl (lv_room (Nat.le_of_ble_eq_true rfl)) dX5_marks_48 ⟨(Nat.le_of_ble_eq_true rfl), (Nat.le_of_ble_eq_true rfl)⟩) hS (fun u H locs hpo hW hS => ?_)
        have hu9 := hpo.symm; subst hu9
        have hW : k_H g ad (set_m_pm (set_m_nd t (fun j => if decide (j < m_md t) = true then false else m_nd t j)) (fun j9 => (fun j9 => (fun j => if decide (j < m_md t) = true then false else m_pm t j) j9 || k_sel (m_th t) (fun j => k_pd 0 (m_on t j)) (m_md t) (m_r1 t) (-1) j9) j9 || k_sel (m_th t) (fun j => k_pd 1 (m_on t j)) (m_md t) (m_r2 t) (-1) j9)) H := hW
        refine lv_aload_n hx hb dX5_marks_51 rfl (lv_at hl 0 rfl) ?_
        refine lv_bipush (v := nI 28) hx hb dX5_marks_52 (by decide) ?_
        refine lv_aload_n hx hb dX5_marks_54 rfl (lv_at hl 0 rfl) ?_
        refine k_get (own := RX5) (C := RX5) (T := TX5) (N := 21) hx hb hts hinX5 hown hK hW (kc_9 g ad (set_m_pm (set_m_nd t (fun j => if decide (j < m_md t) = true then false else m_nd t j)) (fun j9 => (fun j9 => (fun j => if decide (j < m_md t) = true then false else m_pm t j) j9 || k_sel (m_th t) (fun j => k_pd 0 (m_on t j)) (m_md t) (m_r1 t) (-1) j9) j9 || k_sel (m_th t) (fun j => k_pd 1 (m_on t j)) (m_md t) (m_r2 t) (-1) j9))) rfl 15 (by decide) (hts (.fieldLink RX5 48 "DrillVaultModel" "monthRule" "I") (by decide +kernel)) rfl (v := .int (nI (m_r3 t))) rfl dX5_marks_55 ?_
        refine k_cv (va_runV (As := [.int (nI 28), .int (nI (m_r3 t))]) (rest := []) ⟨hx, hb, hml, hown, hts⟩ (c_X5_promises_2 l hlt g ad (set_m_pm (set_m_nd t (fun j => if decide (j < m_md t) = true then false else m_nd t j)) (fun j9 => (fun j9 => (fun j => if decide (j < m_md t) = true then false else m_pm t j) j9 || k_sel (m_th t) (fun j => k_pd 0 (m_on t j)) (m_md t) (m_r1 t) (-1) j9) j9 || k_sel (m_th t) (fun j => k_pd 1 (m_on t j)) (m_md t) (m_r2 t) (-1) j9)) (m_r3 t) hr3 hm60 hmo) (cwV 2 hts gX5_marks_X5_promises rfl rfl rfl (by decide +kernel) ⟨(Nat.le_of_ble_eq_true rfl), (Nat.le_of_ble_eq_true rfl)⟩) ⟨k_blind, k_recv hK hW (kc_9 g ad (set_m_pm (set_m_nd t (fun j => if decide (j < m_md t) = true then false else m_nd t j)) (fun j9 => (fun j9 => (fun j => if decide (j < m_md t) = true then false else m_pm t j) j9 || k_sel (m_th t) (fun j => k_pd 0 (m_on t j)) (m_md t) (m_r1 t) (-1) j9) j9 || k_sel (m_th t) (fun j => k_pd 1 (m_on t j)) (m_md t) (m_r2 t) (-1) j9))) rfl, fun U hU hw => ⟨rfl, k_I.of hK hZ hN hS hW hU hw⟩⟩ rfl rfl hl.1 rfl (lv_room (Nat.le_of_ble_eq_true rfl)) dX5_marks_58 ⟨(Nat.le_of_ble_eq_true rfl), (Nat.le_of_ble_eq_true rfl)⟩) hS (fun u H locs hpo hW hS => ?_)
        have hu9 := hpo.symm; subst hu9
        have hW : k_H g ad (set_m_pm (set_m_nd t (fun j => if decide (j < m_md t) = true then false else m_nd t j)) (fun j9 => (fun j9 => (fun j9 => (fun j => if decide (j < m_md t) = true then false else m_pm t j) j9 || k_sel (m_th t) (fun j => k_pd 0 (m_on t j)) (m_md t) (m_r1 t) (-1) j9) j9 || k_sel (m_th t) (fun j => k_pd 1 (m_on t j)) (m_md t) (m_r2 t) (-1) j9) j9 || k_sel (m_th t) (fun j => k_pd 2 (m_on t j)) (m_md t) (m_r3 t) (-1) j9)) H := hW
        have hW : k_H g ad (set_m_nd (set_m_pm t (k_PmM (m_md t) (m_th t) (m_pm t) (m_on t) (m_r1 t) (m_r2 t) (m_r3 t))) (fun j => if decide (j < m_md t) = true then false else m_nd t j)) H := by
          rw [show (k_PmM (m_md t) (m_th t) (m_pm t) (m_on t) (m_r1 t) (m_r2 t) (m_r3 t)) = (fun j9 => (fun j9 => (fun j9 => (fun j => if decide (j < m_md t) = true then false else m_pm t j) j9 || k_sel (m_th t) (fun j => k_pd 0 (m_on t j)) (m_md t) (m_r1 t) (-1) j9) j9 || k_sel (m_th t) (fun j => k_pd 1 (m_on t j)) (m_md t) (m_r2 t) (-1) j9) j9 || k_sel (m_th t) (fun j => k_pd 2 (m_on t j)) (m_md t) (m_r3 t) (-1) j9) from funext fun j => by simp only [k_PmM, k_P, Bool.or_assoc]]; exact hW
        refine lv_iconst (v := nI 0) hx hb dX5_marks_61 (by decide) ?_
        refine lv_istore_n (lv' := [(2, .int (nI 0)), (0, .ref (ad 9 0)), (1, .int (nI 0))]) hx hb dX5_marks_62 rfl hl (by decide) rfl (fun ls hl => ?_)
        have hloop_63 : ∀ (n : Nat) (i : Nat) (cn : Nat) (N1 : Nat → Bool), (m_md t < i + n) → (i ≤ m_md t) → (cn = k_cb (k_PmM (m_md t) (m_th t) (m_pm t) (m_on t) (m_r1 t) (m_r2 t) (m_r3 t)) i) → (∀ j, N1 j = ((fun j => if decide (j < m_md t) = true then false else m_nd t j) j || k_nd (fun _ => true) (k_PmM (m_md t) (m_th t) (m_pm t) (m_on t) (m_r1 t) (m_r2 t) (m_r3 t)) (m_b t) i j)) → ∀ (H : Heap) (locs : List Loc), k_H g ad (set_m_nd (set_m_pm t (k_PmM (m_md t) (m_th t) (m_pm t) (m_on t) (m_r1 t) (m_r2 t) (m_r3 t))) N1) H → va_S (k_A g) s.heap H locs → ∀ (ls : Array Slot), lv_has ls 4 [(0, .ref (ad 9 0)), (1, .int (nI cn)), (2, .int (nI i))] → W p l e rm_X5_marks s m args below meth c H locs 0 0 Q (F0 m 63 ls []) := by
          intro n
          induction n with
          | zero =>
            intro i cn N1 hfu hi hcn hN1
            exact absurd hfu (by omega)
          | succ n ih_63 =>
            intro i cn N1 hfu hi hcn hN1 H locs hW hS ls hl
            refine lv_iload_n hx hb dX5_marks_63 rfl (lv_at hl 2 rfl) ?_
            refine lv_aload_n hx hb dX5_marks_64 rfl (lv_at hl 0 rfl) ?_
            refine k_get (own := RX5) (C := RX5) (T := TX5) (N := 21) hx hb hts hinX5 hown hK hW (kc_9 g ad (set_m_nd (set_m_pm t (k_PmM (m_md t) (m_th t) (m_pm t) (m_on t) (m_r1 t) (m_r2 t) (m_r3 t))) N1)) rfl 12 (by decide) (hts (.fieldLink RX5 66 "DrillVaultModel" "made" "I") (by decide +kernel)) rfl (v := .int (nI (m_md t))) rfl dX5_marks_65 ?_
            refine k_icmp_ge (tgt := 127) hx hb (a := i) (b := m_md t) (by omega) (by omega) dX5_marks_68 (by decide) (fun h_68 => ?_) (fun h_68 => ?_)
            · refine lv_iload_n hx hb dX5_marks_127 rfl (lv_at hl 1 rfl) ?_
              exact k_ri hQ hx hb hr hlk hS hW ⟨by rw [hcn, show i = m_md t by omega], by rw [show N1 = (k_NmM (m_md t) (m_nd t) (k_PmM (m_md t) (m_th t) (m_pm t) (m_on t) (m_r1 t) (m_r2 t) (m_r3 t)) (m_b t)) from funext fun j => by rw [hN1 j, show i = m_md t by omega]; rfl]⟩ (Nat.le_of_ble_eq_true rfl) (Nat.le_of_ble_eq_true rfl) dX5_marks_128
            · refine lv_iload_n hx hb dX5_marks_71 rfl (lv_at hl 1 rfl) ?_
              refine lv_aload_n hx hb dX5_marks_72 rfl (lv_at hl 0 rfl) ?_
              refine k_get (own := RX5) (C := RX5) (T := TX5) (N := 21) hx hb hts hinX5 hown hK hW (kc_9 g ad (set_m_nd (set_m_pm t (k_PmM (m_md t) (m_th t) (m_pm t) (m_on t) (m_r1 t) (m_r2 t) (m_r3 t))) N1)) rfl 16 (by decide) (hts (.fieldLink RX5 51 "DrillVaultModel" "promised" "[Z") (by decide +kernel)) rfl (v := .ref (ad 20 0)) rfl dX5_marks_73 ?_
              refine lv_iload_n hx hb dX5_marks_76 rfl (lv_at hl 2 rfl) ?_
              refine k_zald hx hb hK hW (kc_20 g ad (set_m_nd (set_m_pm t (k_PmM (m_md t) (m_th t) (m_pm t) (m_on t) (m_r1 t) (m_r2 t) (m_r3 t))) N1)) i rfl (by omega) (by decide) dX5_marks_77 ?_
              refine k_tov (y := .int (kb ((k_PmM (m_md t) (m_th t) (m_pm t) (m_on t) (m_r1 t) (m_r2 t) (m_r3 t)) i))) rfl ?_
              refine k_ifz_eq (tgt := 85) hx hb dX5_marks_78 (by decide) (fun h_78 => ?_) (fun h_78 => ?_)
              · refine lv_iconst (v := nI 0) hx hb dX5_marks_85 (by decide) ?_
                refine k_iadd hx hb dX5_marks_86 ?_
                refine lv_istore_n (lv' := [(1, .int (nI (cn + 0))), (0, .ref (ad 9 0)), (2, .int (nI i))]) hx hb dX5_marks_87 rfl hl (by decide) rfl (fun ls hl => ?_)
                sorry
              · refine lv_iconst (v := nI 1) hx hb dX5_marks_81 (by decide) ?_
                refine lv_goto (tgt := 86) hx hb dX5_marks_82 (by decide) ?_
                refine k_iadd hx hb dX5_marks_86 ?_
                refine lv_istore_n (lv' := [(1, .int (nI (cn + 1))), (0, .ref (ad 9 0)), (2, .int (nI i))]) hx hb dX5_marks_87 rfl hl (by decide) rfl (fun ls hl => ?_)
                sorry
        exact hloop_63 (m_md t + 1) 0 0 ((fun j => if decide (j < m_md t) = true then false else m_nd t j)) (by omega) (by omega) rfl (fun j => (Bool.or_false _).symm) _ _ hW hS _ (lv_sub hl [1, 2, 0] rfl)
      · refine lv_aload_n hx hb dX5_marks_12 rfl (lv_at hl 0 rfl) ?_
        refine k_get (own := RX5) (C := RX5) (T := TX5) (N := 21) hx hb hts hinX5 hown hK hW (kc_9 g ad (set_m_nd (set_m_pm t P1) N1)) rfl 16 (by decide) (hts (.fieldLink RX5 51 "DrillVaultModel" "promised" "[Z") (by decide +kernel)) rfl (v := .ref (ad 20 0)) rfl dX5_marks_13 ?_
        refine lv_iload_n hx hb dX5_marks_16 rfl (lv_at hl 2 rfl) ?_
        refine lv_iconst (v := nI 0) hx hb dX5_marks_17 (by decide) ?_
        refine k_zast hx hb hK hW hS (kc_20 g ad (set_m_nd (set_m_pm t P1) N1)) rfl i rfl (by omega) (by decide) dX5_marks_18 (fun H locs hW hS => ?_)
        have hW : k_H g ad (set_m_pm (set_m_nd t N1) (va_up P1 i false)) H := kt_m_pm (t := set_m_nd (set_m_pm t P1) N1) i false rfl hW
        refine lv_aload_n hx hb dX5_marks_19 rfl (lv_at hl 0 rfl) ?_
        refine k_get (own := RX5) (C := RX5) (T := TX5) (N := 21) hx hb hts hinX5 hown hK hW (kc_9 g ad (set_m_pm (set_m_nd t N1) (va_up P1 i false))) rfl 17 (by decide) (hts (.fieldLink RX5 54 "DrillVaultModel" "needed" "[Z") (by decide +kernel)) rfl (v := .ref (ad 21 0)) rfl dX5_marks_20 ?_
        refine lv_iload_n hx hb dX5_marks_23 rfl (lv_at hl 2 rfl) ?_
        refine lv_iconst (v := nI 0) hx hb dX5_marks_24 (by decide) ?_
        refine k_zast hx hb hK hW hS (kc_21 g ad (set_m_pm (set_m_nd t N1) (va_up P1 i false))) rfl i rfl (by omega) (by decide) dX5_marks_25 (fun H locs hW hS => ?_)
        have hW : k_H g ad (set_m_nd (set_m_pm t (va_up P1 i false)) (va_up N1 i false)) H := kt_m_nd (t := set_m_pm (set_m_nd t N1) (va_up P1 i false)) i false rfl hW
        refine lv_iinc (v := nI (i + 1)) (lv' := [(2, .int (nI (i + 1))), (0, .ref (ad 9 0)), (1, .int (nI 0))]) hx hb dX5_marks_26 hl (k := 2) rfl (nI_add _ _) (by decide) rfl (fun ls hl => ?_)
        refine lv_goto (tgt := 4) hx hb dX5_marks_29 (by decide) ?_
        exact ih (i + 1) (va_up P1 i false) (va_up N1 i false) (by omega) (by omega) (k_rs hP1 (k_lm h_9) rfl) (k_rs hN1 (k_lm h_9) rfl) _ _ hW hS _ (lv_sub hl [1, 2, 0] rfl)
  exact hloop_4 (m_md t + 1) 0 (m_pm t) (m_nd t) (by omega) (by omega) k_rs_0 k_rs_0 _ _ hW hS _ (lv_sub hl [2, 1, 0] rfl)
set_option maxRecDepth 100000 in
set_option maxHeartbeats 4000000 in
theorem c_X5_marks_try4 (l : Launch) (hlt : l.stackTraces = false) (g : k_g) (ad : k_AD) (t : k_T) (hm60 : m_md t ≤ 60) (hmb : ∀ k b, k < m_md t → m_b t k = some b → b < k) (hmo : ∀ j, j < m_md t → m_on t j ≤ 360) (hr1 : m_r1 t ≤ 30) (hr2 : m_r2 t ≤ 30) (hr3 : m_r3 t ≤ 30) : Met l yX5_marks wsX5_marks rm_X5_marks (va_Pc [.ref (ad 9 0)] (k_I g (k_ct g ad t) ad)) (va_Qi (fun r u => r = nI (k_cb (k_PmM (m_md t) (m_th t) (m_pm t) (m_on t) (m_r1 t) (m_r2 t) (m_r3 t)) (m_md t)) ∧ u = set_m_nd (set_m_pm t (k_PmM (m_md t) (m_th t) (m_pm t) (m_on t) (m_r1 t) (m_r2 t) (m_r3 t))) (k_NmM (m_md t) (m_nd t) (k_PmM (m_md t) (m_th t) (m_pm t) (m_on t) (m_r1 t) (m_r2 t) (m_r3 t)) (m_b t))) (fun u U => k_H g ad u U.heap) (k_A g)) 0 0 (k_A g) := by
  refine k_met (cc := cX5_marks) (maxL := 4) (ret := (some .int)) (by decide) rfl (Nat.le_of_ble_eq_true rfl) (fun p e s m args below meth c Q ls hQ hx hb hr hml hts hown hlk hin hK hZ hN hW hS hl => ?_)
  have hown : s.vm.findClass RX5 = some m.cls := hown
  have hW : k_H g ad t s.heap := hW
  have hl : lv_has ls 4 [(0, .ref (ad 9 0))] := hl
  have hinX5 : ∀ w ∈ wsX50, w ∈ wsX5_marks := by decide +kernel
  refine lv_iconst (v := nI 0) hx hb dX5_marks_0 (by decide) ?_
  refine lv_istore_n (lv' := [(1, .int (nI 0)), (0, .ref (ad 9 0))]) hx hb dX5_marks_1 rfl hl (by decide) rfl (fun ls hl => ?_)
  refine lv_iconst (v := nI 0) hx hb dX5_marks_2 (by decide) ?_
  refine lv_istore_n (lv' := [(2, .int (nI 0)), (1, .int (nI 0)), (0, .ref (ad 9 0))]) hx hb dX5_marks_3 rfl hl (by decide) rfl (fun ls hl => ?_)
  have hloop_4 : ∀ (n : Nat) (i : Nat) (P1 : Nat → Bool) (N1 : Nat → Bool), (m_md t < i + n) → (i ≤ m_md t) → (∀ j, P1 j = if (decide (j < i) && (fun j => decide (j < m_md t)) j) = true then (fun _ => false) j else m_pm t j) → (∀ j, N1 j = if (decide (j < i) && (fun j => decide (j < m_md t)) j) = true then (fun _ => false) j else m_nd t j) → ∀ (H : Heap) (locs : List Loc), k_H g ad (set_m_nd (set_m_pm t P1) N1) H → va_S (k_A g) s.heap H locs → ∀ (ls : Array Slot), lv_has ls 4 [(0, .ref (ad 9 0)), (1, .int (nI 0)), (2, .int (nI i))] → W p l e rm_X5_marks s m args below meth c H locs 0 0 Q (F0 m 4 ls []) := by
    intro n
    induction n with
    | zero =>
      intro i P1 N1 hfu hi hP1 hN1
      exact absurd hfu (by omega)
    | succ n ih =>
      intro i P1 N1 hfu hi hP1 hN1 H locs hW hS ls hl
      refine lv_iload_n hx hb dX5_marks_4 rfl (lv_at hl 2 rfl) ?_
      refine lv_aload_n hx hb dX5_marks_5 rfl (lv_at hl 0 rfl) ?_
      refine k_get (own := RX5) (C := RX5) (T := TX5) (N := 21) hx hb hts hinX5 hown hK hW (kc_9 g ad (set_m_nd (set_m_pm t P1) N1)) rfl 12 (by decide) (hts (.fieldLink RX5 66 "DrillVaultModel" "made" "I") (by decide +kernel)) rfl (v := .int (nI (m_md t))) rfl dX5_marks_6 ?_
      refine k_icmp_ge (tgt := 32) hx hb (a := i) (b := m_md t) (by omega) (by omega) dX5_marks_9 (by decide) (fun h_9 => ?_) (fun h_9 => ?_)
      · have hPe := k_rs_e hP1 k_lmw (show m_md t ≤ i by omega); have hNe := k_rs_e hN1 k_lmw (show m_md t ≤ i by omega)
        subst hPe; subst hNe
        have hW : k_H g ad (set_m_nd (set_m_pm t (fun j => if decide (j < m_md t) = true then false else m_pm t j)) (fun j => if decide (j < m_md t) = true then false else m_nd t j)) H := hW
        refine lv_aload_n hx hb dX5_marks_32 rfl (lv_at hl 0 rfl) ?_
        refine lv_iconst (v := nI 1) hx hb dX5_marks_33 (by decide) ?_
        refine lv_aload_n hx hb dX5_marks_34 rfl (lv_at hl 0 rfl) ?_
        refine k_get (own := RX5) (C := RX5) (T := TX5) (N := 21) hx hb hts hinX5 hown hK hW (kc_9 g ad (set_m_nd (set_m_pm t (fun j => if decide (j < m_md t) = true then false else m_pm t j)) (fun j => if decide (j < m_md t) = true then false else m_nd t j))) rfl 13 (by decide) (hts (.fieldLink RX5 41 "DrillVaultModel" "dayRule" "I") (by decide +kernel)) rfl (v := .int (nI (m_r1 t))) rfl dX5_marks_35 ?_
        refine k_cv (va_runV (As := [.int (nI 1), .int (nI (m_r1 t))]) (rest := []) ⟨hx, hb, hml, hown, hts⟩ (c_X5_promises_0 l hlt g ad (set_m_nd (set_m_pm t (fun j => if decide (j < m_md t) = true then false else m_pm t j)) (fun j => if decide (j < m_md t) = true then false else m_nd t j)) (m_r1 t) hr1 hm60 hmo) (cwV 2 hts gX5_marks_X5_promises rfl rfl rfl (by decide +kernel) ⟨(Nat.le_of_ble_eq_true rfl), (Nat.le_of_ble_eq_true rfl)⟩) ⟨k_blind, k_recv hK hW (kc_9 g ad (set_m_nd (set_m_pm t (fun j => if decide (j < m_md t) = true then false else m_pm t j)) (fun j => if decide (j < m_md t) = true then false else m_nd t j))) rfl, fun U hU hw => ⟨rfl, k_I.of hK hZ hN hS hW hU hw⟩⟩ rfl rfl hl.1 rfl (lv_room (Nat.le_of_ble_eq_true rfl)) dX5_marks_38 ⟨(Nat.le_of_ble_eq_true rfl), (Nat.le_of_ble_eq_true rfl)⟩) hS (fun u H locs hpo hW hS => ?_)
        have hu9 := hpo.symm; subst hu9
        have hW : k_H g ad (set_m_pm (set_m_nd t (fun j => if decide (j < m_md t) = true then false else m_nd t j)) (fun j9 => (fun j => if decide (j < m_md t) = true then false else m_pm t j) j9 || k_sel (m_th t) (fun j => k_pd 0 (m_on t j)) (m_md t) (m_r1 t) (-1) j9)) H := hW
        refine lv_aload_n hx hb dX5_marks_41 rfl (lv_at hl 0 rfl) ?_
        refine lv_bipush (v := nI 7) hx hb dX5_marks_42 (by decide) ?_
        refine lv_aload_n hx hb dX5_marks_44 rfl (lv_at hl 0 rfl) ?_
        refine k_get (own := RX5) (C := RX5) (T := TX5) (N := 21) hx hb hts hinX5 hown hK hW (kc_9 g ad (set_m_pm (set_m_nd t (fun j => if decide (j < m_md t) = true then false else m_nd t j)) (fun j9 => (fun j => if decide (j < m_md t) = true then false else m_pm t j) j9 || k_sel (m_th t) (fun j => k_pd 0 (m_on t j)) (m_md t) (m_r1 t) (-1) j9))) rfl 14 (by decide) (hts (.fieldLink RX5 45 "DrillVaultModel" "weekRule" "I") (by decide +kernel)) rfl (v := .int (nI (m_r2 t))) rfl dX5_marks_45 ?_
        refine k_cv (va_runV (As := [.int (nI 7), .int (nI (m_r2 t))]) (rest := []) ⟨hx, hb, hml, hown, hts⟩ (c_X5_promises_1 l hlt g ad (set_m_pm (set_m_nd t (fun j => if decide (j < m_md t) = true then false else m_nd t j)) (fun j9 => (fun j => if decide (j < m_md t) = true then false else m_pm t j) j9 || k_sel (m_th t) (fun j => k_pd 0 (m_on t j)) (m_md t) (m_r1 t) (-1) j9)) (m_r2 t) hr2 hm60 hmo) (cwV 2 hts gX5_marks_X5_promises rfl rfl rfl (by decide +kernel) ⟨(Nat.le_of_ble_eq_true rfl), (Nat.le_of_ble_eq_true rfl)⟩) ⟨k_blind, k_recv hK hW (kc_9 g ad (set_m_pm (set_m_nd t (fun j => if decide (j < m_md t) = true then false else m_nd t j)) (fun j9 => (fun j => if decide (j < m_md t) = true then false else m_pm t j) j9 || k_sel (m_th t) (fun j => k_pd 0 (m_on t j)) (m_md t) (m_r1 t) (-1) j9))) rfl, fun U hU hw => ⟨rfl, k_I.of hK hZ hN hS hW hU hw⟩⟩ rfl rfl hl.1 rfl (lv_room (Nat.le_of_ble_eq_true rfl)) dX5_marks_48 ⟨(Nat.le_of_ble_eq_true rfl), (Nat.le_of_ble_eq_true rfl)⟩) hS (fun u H locs hpo hW hS => ?_)
        have hu9 := hpo.symm; subst hu9
        have hW : k_H g ad (set_m_pm (set_m_nd t (fun j => if decide (j < m_md t) = true then false else m_nd t j)) (fun j9 => (fun j9 => (fun j => if decide (j < m_md t) = true then false else m_pm t j) j9 || k_sel (m_th t) (fun j => k_pd 0 (m_on t j)) (m_md t) (m_r1 t) (-1) j9) j9 || k_sel (m_th t) (fun j => k_pd 1 (m_on t j)) (m_md t) (m_r2 t) (-1) j9)) H := hW
        refine lv_aload_n hx hb dX5_marks_51 rfl (lv_at hl 0 rfl) ?_
        refine lv_bipush (v := nI 28) hx hb dX5_marks_52 (by decide) ?_
        refine lv_aload_n hx hb dX5_marks_54 rfl (lv_at hl 0 rfl) ?_
        refine k_get (own := RX5) (C := RX5) (T := TX5) (N := 21) hx hb hts hinX5 hown hK hW (kc_9 g ad (set_m_pm (set_m_nd t (fun j => if decide (j < m_md t) = true then false else m_nd t j)) (fun j9 => (fun j9 => (fun j => if decide (j < m_md t) = true then false else m_pm t j) j9 || k_sel (m_th t) (fun j => k_pd 0 (m_on t j)) (m_md t) (m_r1 t) (-1) j9) j9 || k_sel (m_th t) (fun j => k_pd 1 (m_on t j)) (m_md t) (m_r2 t) (-1) j9))) rfl 15 (by decide) (hts (.fieldLink RX5 48 "DrillVaultModel" "monthRule" "I") (by decide +kernel)) rfl (v := .int (nI (m_r3 t))) rfl dX5_marks_55 ?_
        refine k_cv (va_runV (As := [.int (nI 28), .int (nI (m_r3 t))]) (rest := []) ⟨hx, hb, hml, hown, hts⟩ (c_X5_promises_2 l hlt g ad (set_m_pm (set_m_nd t (fun j => if decide (j < m_md t) = true then false else m_nd t j)) (fun j9 => (fun j9 => (fun j => if decide (j < m_md t) = true then false else m_pm t j) j9 || k_sel (m_th t) (fun j => k_pd 0 (m_on t j)) (m_md t) (m_r1 t) (-1) j9) j9 || k_sel (m_th t) (fun j => k_pd 1 (m_on t j)) (m_md t) (m_r2 t) (-1) j9)) (m_r3 t) hr3 hm60 hmo) (cwV 2 hts gX5_marks_X5_promises rfl rfl rfl (by decide +kernel) ⟨(Nat.le_of_ble_eq_true rfl), (Nat.le_of_ble_eq_true rfl)⟩) ⟨k_blind, k_recv hK hW (kc_9 g ad (set_m_pm (set_m_nd t (fun j => if decide (j < m_md t) = true then false else m_nd t j)) (fun j9 => (fun j9 => (fun j => if decide (j < m_md t) = true then false else m_pm t j) j9 || k_sel (m_th t) (fun j => k_pd 0 (m_on t j)) (m_md t) (m_r1 t) (-1) j9) j9 || k_sel (m_th t) (fun j => k_pd 1 (m_on t j)) (m_md t) (m_r2 t) (-1) j9))) rfl, fun U hU hw => ⟨rfl, k_I.of hK hZ hN hS hW hU hw⟩⟩ rfl rfl hl.1 rfl (lv_room (Nat.le_of_ble_eq_true rfl)) dX5_marks_58 ⟨(Nat.le_of_ble_eq_true rfl), (Nat.le_of_ble_eq_true rfl)⟩) hS (fun u H locs hpo hW hS => ?_)
        have hu9 := hpo.symm; subst hu9
        have hW : k_H g ad (set_m_pm (set_m_nd t (fun j => if decide (j < m_md t) = true then false else m_nd t j)) (fun j9 => (fun j9 => (fun j9 => (fun j => if decide (j < m_md t) = true then false else m_pm t j) j9 || k_sel (m_th t) (fun j => k_pd 0 (m_on t j)) (m_md t) (m_r1 t) (-1) j9) j9 || k_sel (m_th t) (fun j => k_pd 1 (m_on t j)) (m_md t) (m_r2 t) (-1) j9) j9 || k_sel (m_th t) (fun j => k_pd 2 (m_on t j)) (m_md t) (m_r3 t) (-1) j9)) H := hW
        have hW : k_H g ad (set_m_nd (set_m_pm t (k_PmM (m_md t) (m_th t) (m_pm t) (m_on t) (m_r1 t) (m_r2 t) (m_r3 t))) (fun j => if decide (j < m_md t) = true then false else m_nd t j)) H := by
          rw [show (k_PmM (m_md t) (m_th t) (m_pm t) (m_on t) (m_r1 t) (m_r2 t) (m_r3 t)) = (fun j9 => (fun j9 => (fun j9 => (fun j => if decide (j < m_md t) = true then false else m_pm t j) j9 || k_sel (m_th t) (fun j => k_pd 0 (m_on t j)) (m_md t) (m_r1 t) (-1) j9) j9 || k_sel (m_th t) (fun j => k_pd 1 (m_on t j)) (m_md t) (m_r2 t) (-1) j9) j9 || k_sel (m_th t) (fun j => k_pd 2 (m_on t j)) (m_md t) (m_r3 t) (-1) j9) from funext fun j => by simp only [k_PmM, k_P, Bool.or_assoc]]; exact hW
        refine lv_iconst (v := nI 0) hx hb dX5_marks_61 (by decide) ?_
        refine lv_istore_n (lv' := [(2, .int (nI 0)), (0, .ref (ad 9 0)), (1, .int (nI 0))]) hx hb dX5_marks_62 rfl hl (by decide) rfl (fun ls hl => ?_)
        have hloop_63 : ∀ (n : Nat) (i : Nat) (cn : Nat) (N1 : Nat → Bool), (m_md t < i + n) → (i ≤ m_md t) → (cn = k_cb (k_PmM (m_md t) (m_th t) (m_pm t) (m_on t) (m_r1 t) (m_r2 t) (m_r3 t)) i) → (∀ j, N1 j = ((fun j => if decide (j < m_md t) = true then false else m_nd t j) j || k_nd (fun _ => true) (k_PmM (m_md t) (m_th t) (m_pm t) (m_on t) (m_r1 t) (m_r2 t) (m_r3 t)) (m_b t) i j)) → ∀ (H : Heap) (locs : List Loc), k_H g ad (set_m_nd (set_m_pm t (k_PmM (m_md t) (m_th t) (m_pm t) (m_on t) (m_r1 t) (m_r2 t) (m_r3 t))) N1) H → va_S (k_A g) s.heap H locs → ∀ (ls : Array Slot), lv_has ls 4 [(0, .ref (ad 9 0)), (1, .int (nI cn)), (2, .int (nI i))] → W p l e rm_X5_marks s m args below meth c H locs 0 0 Q (F0 m 63 ls []) := by
          intro n
          induction n with
          | zero =>
            intro i cn N1 hfu hi hcn hN1
            exact absurd hfu (by omega)
          | succ n ih_63 =>
            intro i cn N1 hfu hi hcn hN1 H locs hW hS ls hl
            refine lv_iload_n hx hb dX5_marks_63 rfl (lv_at hl 2 rfl) ?_
            refine lv_aload_n hx hb dX5_marks_64 rfl (lv_at hl 0 rfl) ?_
            refine k_get (own := RX5) (C := RX5) (T := TX5) (N := 21) hx hb hts hinX5 hown hK hW (kc_9 g ad (set_m_nd (set_m_pm t (k_PmM (m_md t) (m_th t) (m_pm t) (m_on t) (m_r1 t) (m_r2 t) (m_r3 t))) N1)) rfl 12 (by decide) (hts (.fieldLink RX5 66 "DrillVaultModel" "made" "I") (by decide +kernel)) rfl (v := .int (nI (m_md t))) rfl dX5_marks_65 ?_
            refine k_icmp_ge (tgt := 127) hx hb (a := i) (b := m_md t) (by omega) (by omega) dX5_marks_68 (by decide) (fun h_68 => ?_) (fun h_68 => ?_)
            · refine lv_iload_n hx hb dX5_marks_127 rfl (lv_at hl 1 rfl) ?_
              exact k_ri hQ hx hb hr hlk hS hW ⟨by rw [hcn, show i = m_md t by omega], by rw [show N1 = (k_NmM (m_md t) (m_nd t) (k_PmM (m_md t) (m_th t) (m_pm t) (m_on t) (m_r1 t) (m_r2 t) (m_r3 t)) (m_b t)) from funext fun j => by rw [hN1 j, show i = m_md t by omega]; rfl]⟩ (Nat.le_of_ble_eq_true rfl) (Nat.le_of_ble_eq_true rfl) dX5_marks_128
            · refine lv_iload_n hx hb dX5_marks_71 rfl (lv_at hl 1 rfl) ?_
              refine lv_aload_n hx hb dX5_marks_72 rfl (lv_at hl 0 rfl) ?_
              refine k_get (own := RX5) (C := RX5) (T := TX5) (N := 21) hx hb hts hinX5 hown hK hW (kc_9 g ad (set_m_nd (set_m_pm t (k_PmM (m_md t) (m_th t) (m_pm t) (m_on t) (m_r1 t) (m_r2 t) (m_r3 t))) N1)) rfl 16 (by decide) (hts (.fieldLink RX5 51 "DrillVaultModel" "promised" "[Z") (by decide +kernel)) rfl (v := .ref (ad 20 0)) rfl dX5_marks_73 ?_
              refine lv_iload_n hx hb dX5_marks_76 rfl (lv_at hl 2 rfl) ?_
              refine k_zald hx hb hK hW (kc_20 g ad (set_m_nd (set_m_pm t (k_PmM (m_md t) (m_th t) (m_pm t) (m_on t) (m_r1 t) (m_r2 t) (m_r3 t))) N1)) i rfl (by omega) (by decide) dX5_marks_77 ?_
              refine k_tov (y := .int (kb ((k_PmM (m_md t) (m_th t) (m_pm t) (m_on t) (m_r1 t) (m_r2 t) (m_r3 t)) i))) rfl ?_
              refine k_ifz_eq (tgt := 85) hx hb dX5_marks_78 (by decide) (fun h_78 => ?_) (fun h_78 => ?_)
              · refine lv_iconst (v := nI 0) hx hb dX5_marks_85 (by decide) ?_
                refine k_iadd hx hb dX5_marks_86 ?_
                refine lv_istore_n (lv' := [(1, .int (nI (cn + 0))), (0, .ref (ad 9 0)), (2, .int (nI i))]) hx hb dX5_marks_87 rfl hl (by decide) rfl (fun ls hl => ?_)
                refine lv_iload_n hx hb dX5_marks_88 rfl (lv_at hl 2 rfl) ?_
                refine lv_istore_n (lv' := [(3, .int (nI i)), (1, .int (nI (cn + 0))), (0, .ref (ad 9 0)), (2, .int (nI i))]) hx hb dX5_marks_89 rfl hl (by decide) rfl (fun ls hl => ?_)
                refine lv_iload_n hx hb dX5_marks_90 rfl (lv_at hl 0 rfl) ?_
                refine lv_iconst (v := (-1)) hx hb dX5_marks_91 (by decide) ?_
                refine lv_icmp_eq (tgt := 121) hx hb dX5_marks_92 (by decide) (fun h_92 => absurd h_92 (k_nm1 (by omega))) (fun h_92 => ?_)
                sorry
              · refine lv_iconst (v := nI 1) hx hb dX5_marks_81 (by decide) ?_
                refine lv_goto (tgt := 86) hx hb dX5_marks_82 (by decide) ?_
                refine k_iadd hx hb dX5_marks_86 ?_
                refine lv_istore_n (lv' := [(1, .int (nI (cn + 1))), (0, .ref (ad 9 0)), (2, .int (nI i))]) hx hb dX5_marks_87 rfl hl (by decide) rfl (fun ls hl => ?_)
                refine lv_iload_n hx hb dX5_marks_88 rfl (lv_at hl 2 rfl) ?_
                refine lv_istore_n (lv' := [(3, .int (nI i)), (1, .int (nI (cn + 1))), (0, .ref (ad 9 0)), (2, .int (nI i))]) hx hb dX5_marks_89 rfl hl (by decide) rfl (fun ls hl => ?_)
                have hloop_90 : ∀ (n : Nat) (cur : Option Nat) (N2 : Nat → Bool), (0 < n) → (∀ q, cur = some q → q + 1 < n ∧ q < m_md t) → (∀ j, (fun j => N1 j || (k_cl (m_b t) i).contains j) j = (N2 j || (k_clo (m_b t) cur).contains j)) → ∀ (H : Heap) (locs : List Loc), k_H g ad (set_m_nd (set_m_pm t (k_PmM (m_md t) (m_th t) (m_pm t) (m_on t) (m_r1 t) (m_r2 t) (m_r3 t))) N2) H → va_S (k_A g) s.heap H locs → ∀ (ls : Array Slot), lv_has ls 4 [(0, .ref (ad 9 0)), (1, .int (nI (cn + 1))), (2, .int (nI i)), (3, .int (kO cur))] → W p l e rm_X5_marks s m args below meth c H locs 0 0 Q (F0 m 90 ls []) := by
                  intro n
                  induction n with
                  | zero =>
                    intro cur N2 hfu2 hck hN2
                    exact absurd hfu2 (by omega)
                  | succ n ih_90 =>
                    intro cur N2 hfu2 hck hN2 H locs hW hS ls hl
                    rcases cur with _ | k
                    · have hl : lv_has ls 4 [(0, .ref (ad 9 0)), (1, .int (nI (cn + 1))), (2, .int (nI i)), (3, .int (-1))] := hl
                      refine lv_iload_n hx hb dX5_marks_90 rfl (lv_at hl 3 rfl) ?_
                      refine lv_iconst (v := (-1)) hx hb dX5_marks_91 (by decide) ?_
                      refine lv_icmp_eq (tgt := 121) hx hb dX5_marks_92 (by decide) (fun h_92 => ?_) (fun h_92 => absurd rfl h_92)
                      refine lv_iinc (v := nI (i + 1)) (lv' := [(2, .int (nI (i + 1))), (0, .ref (ad 9 0)), (1, .int (nI (cn + 1))), (3, .int (-1))]) hx hb dX5_marks_121 hl (k := 2) rfl (nI_add _ _) (by decide) rfl (fun ls hl => ?_)
                      refine lv_goto (tgt := 63) hx hb dX5_marks_124 (by decide) ?_
                      exact ih_63 (i + 1) (cn + 1) N2 (by omega) (by omega) (by rw [k_cb_y h_78, hcn]) (fun j => by rw [k_out hN2 j, k_nd_y rfl h_78, ← Bool.or_assoc, ← hN1 j]) _ _ hW hS _ (lv_sub hl [1, 2, 0] rfl)
                    · have hl : lv_has ls 4 [(0, .ref (ad 9 0)), (1, .int (nI (cn + 1))), (2, .int (nI i)), (3, .int (nI k))] := hl
                      have hkm : k < m_md t := (hck _ rfl).2
                      have hdk : ∀ b, m_b t k = some b → b < k := fun b hb => hmb _ _ hkm hb
                      rw [k_clo_some hdk] at hN2
                      refine lv_iload_n hx hb dX5_marks_90 rfl (lv_at hl 3 rfl) ?_
                      refine lv_iconst (v := (-1)) hx hb dX5_marks_91 (by decide) ?_
                      refine lv_icmp_eq (tgt := 121) hx hb dX5_marks_92 (by decide) (fun h_92 => absurd h_92 (k_nm1 (by omega))) (fun h_92 => ?_)
                      sorry
                exact hloop_90 (i + 2) (some i) N1 (by omega) (fun q hq => by cases hq; exact ⟨by omega, h_68⟩) (fun j => rfl) _ _ hW hS _ (lv_sub hl [2, 1, 3, 0] rfl)
        exact hloop_63 (m_md t + 1) 0 0 ((fun j => if decide (j < m_md t) = true then false else m_nd t j)) (by omega) (by omega) rfl (fun j => (Bool.or_false _).symm) _ _ hW hS _ (lv_sub hl [1, 2, 0] rfl)
      · refine lv_aload_n hx hb dX5_marks_12 rfl (lv_at hl 0 rfl) ?_
        refine k_get (own := RX5) (C := RX5) (T := TX5) (N := 21) hx hb hts hinX5 hown hK hW (kc_9 g ad (set_m_nd (set_m_pm t P1) N1)) rfl 16 (by decide) (hts (.fieldLink RX5 51 "DrillVaultModel" "promised" "[Z") (by decide +kernel)) rfl (v := .ref (ad 20 0)) rfl dX5_marks_13 ?_
        refine lv_iload_n hx hb dX5_marks_16 rfl (lv_at hl 2 rfl) ?_
        refine lv_iconst (v := nI 0) hx hb dX5_marks_17 (by decide) ?_
        refine k_zast hx hb hK hW hS (kc_20 g ad (set_m_nd (set_m_pm t P1) N1)) rfl i rfl (by omega) (by decide) dX5_marks_18 (fun H locs hW hS => ?_)
        have hW : k_H g ad (set_m_pm (set_m_nd t N1) (va_up P1 i false)) H := kt_m_pm (t := set_m_nd (set_m_pm t P1) N1) i false rfl hW
        refine lv_aload_n hx hb dX5_marks_19 rfl (lv_at hl 0 rfl) ?_
        refine k_get (own := RX5) (C := RX5) (T := TX5) (N := 21) hx hb hts hinX5 hown hK hW (kc_9 g ad (set_m_pm (set_m_nd t N1) (va_up P1 i false))) rfl 17 (by decide) (hts (.fieldLink RX5 54 "DrillVaultModel" "needed" "[Z") (by decide +kernel)) rfl (v := .ref (ad 21 0)) rfl dX5_marks_20 ?_
        refine lv_iload_n hx hb dX5_marks_23 rfl (lv_at hl 2 rfl) ?_
        refine lv_iconst (v := nI 0) hx hb dX5_marks_24 (by decide) ?_
        refine k_zast hx hb hK hW hS (kc_21 g ad (set_m_pm (set_m_nd t N1) (va_up P1 i false))) rfl i rfl (by omega) (by decide) dX5_marks_25 (fun H locs hW hS => ?_)
        have hW : k_H g ad (set_m_nd (set_m_pm t (va_up P1 i false)) (va_up N1 i false)) H := kt_m_nd (t := set_m_pm (set_m_nd t N1) (va_up P1 i false)) i false rfl hW
        refine lv_iinc (v := nI (i + 1)) (lv' := [(2, .int (nI (i + 1))), (0, .ref (ad 9 0)), (1, .int (nI 0))]) hx hb dX5_marks_26 hl (k := 2) rfl (nI_add _ _) (by decide) rfl (fun ls hl => ?_)
        refine lv_goto (tgt := 4) hx hb dX5_marks_29 (by decide) ?_
        exact ih (i + 1) (va_up P1 i false) (va_up N1 i false) (by omega) (by omega) (k_rs hP1 (k_lm h_9) rfl) (k_rs hN1 (k_lm h_9) rfl) _ _ hW hS _ (lv_sub hl [1, 2, 0] rfl)
  exact hloop_4 (m_md t + 1) 0 (m_pm t) (m_nd t) (by omega) (by omega) k_rs_0 k_rs_0 _ _ hW hS _ (lv_sub hl [2, 1, 0] rfl)
set_option maxRecDepth 100000 in
set_option maxHeartbeats 4000000 in
theorem c_X5_marks_try5 (l : Launch) (hlt : l.stackTraces = false) (g : k_g) (ad : k_AD) (t : k_T) (hm60 : m_md t ≤ 60) (hmb : ∀ k b, k < m_md t → m_b t k = some b → b < k) (hmo : ∀ j, j < m_md t → m_on t j ≤ 360) (hr1 : m_r1 t ≤ 30) (hr2 : m_r2 t ≤ 30) (hr3 : m_r3 t ≤ 30) : Met l yX5_marks wsX5_marks rm_X5_marks (va_Pc [.ref (ad 9 0)] (k_I g (k_ct g ad t) ad)) (va_Qi (fun r u => r = nI (k_cb (k_PmM (m_md t) (m_th t) (m_pm t) (m_on t) (m_r1 t) (m_r2 t) (m_r3 t)) (m_md t)) ∧ u = set_m_nd (set_m_pm t (k_PmM (m_md t) (m_th t) (m_pm t) (m_on t) (m_r1 t) (m_r2 t) (m_r3 t))) (k_NmM (m_md t) (m_nd t) (k_PmM (m_md t) (m_th t) (m_pm t) (m_on t) (m_r1 t) (m_r2 t) (m_r3 t)) (m_b t))) (fun u U => k_H g ad u U.heap) (k_A g)) 0 0 (k_A g) := by
  refine k_met (cc := cX5_marks) (maxL := 4) (ret := (some .int)) (by decide) rfl (Nat.le_of_ble_eq_true rfl) (fun p e s m args below meth c Q ls hQ hx hb hr hml hts hown hlk hin hK hZ hN hW hS hl => ?_)
  have hown : s.vm.findClass RX5 = some m.cls := hown
  have hW : k_H g ad t s.heap := hW
  have hl : lv_has ls 4 [(0, .ref (ad 9 0))] := hl
  have hinX5 : ∀ w ∈ wsX50, w ∈ wsX5_marks := by decide +kernel
  refine lv_iconst (v := nI 0) hx hb dX5_marks_0 (by decide) ?_
  refine lv_istore_n (lv' := [(1, .int (nI 0)), (0, .ref (ad 9 0))]) hx hb dX5_marks_1 rfl hl (by decide) rfl (fun ls hl => ?_)
  refine lv_iconst (v := nI 0) hx hb dX5_marks_2 (by decide) ?_
  refine lv_istore_n (lv' := [(2, .int (nI 0)), (1, .int (nI 0)), (0, .ref (ad 9 0))]) hx hb dX5_marks_3 rfl hl (by decide) rfl (fun ls hl => ?_)
  have hloop_4 : ∀ (n : Nat) (i : Nat) (P1 : Nat → Bool) (N1 : Nat → Bool), (m_md t < i + n) → (i ≤ m_md t) → (∀ j, P1 j = if (decide (j < i) && (fun j => decide (j < m_md t)) j) = true then (fun _ => false) j else m_pm t j) → (∀ j, N1 j = if (decide (j < i) && (fun j => decide (j < m_md t)) j) = true then (fun _ => false) j else m_nd t j) → ∀ (H : Heap) (locs : List Loc), k_H g ad (set_m_nd (set_m_pm t P1) N1) H → va_S (k_A g) s.heap H locs → ∀ (ls : Array Slot), lv_has ls 4 [(0, .ref (ad 9 0)), (1, .int (nI 0)), (2, .int (nI i))] → W p l e rm_X5_marks s m args below meth c H locs 0 0 Q (F0 m 4 ls []) := by
    intro n
    induction n with
    | zero =>
      intro i P1 N1 hfu hi hP1 hN1
      exact absurd hfu (by omega)
    | succ n ih =>
      intro i P1 N1 hfu hi hP1 hN1 H locs hW hS ls hl
      refine lv_iload_n hx hb dX5_marks_4 rfl (lv_at hl 2 rfl) ?_
      refine lv_aload_n hx hb dX5_marks_5 rfl (lv_at hl 0 rfl) ?_
      refine k_get (own := RX5) (C := RX5) (T := TX5) (N := 21) hx hb hts hinX5 hown hK hW (kc_9 g ad (set_m_nd (set_m_pm t P1) N1)) rfl 12 (by decide) (hts (.fieldLink RX5 66 "DrillVaultModel" "made" "I") (by decide +kernel)) rfl (v := .int (nI (m_md t))) rfl dX5_marks_6 ?_
      refine k_icmp_ge (tgt := 32) hx hb (a := i) (b := m_md t) (by omega) (by omega) dX5_marks_9 (by decide) (fun h_9 => ?_) (fun h_9 => ?_)
      · have hPe := k_rs_e hP1 k_lmw (show m_md t ≤ i by omega); have hNe := k_rs_e hN1 k_lmw (show m_md t ≤ i by omega)
        subst hPe; subst hNe
        have hW : k_H g ad (set_m_nd (set_m_pm t (fun j => if decide (j < m_md t) = true then false else m_pm t j)) (fun j => if decide (j < m_md t) = true then false else m_nd t j)) H := hW
        refine lv_aload_n hx hb dX5_marks_32 rfl (lv_at hl 0 rfl) ?_
        refine lv_iconst (v := nI 1) hx hb dX5_marks_33 (by decide) ?_
        refine lv_aload_n hx hb dX5_marks_34 rfl (lv_at hl 0 rfl) ?_
        refine k_get (own := RX5) (C := RX5) (T := TX5) (N := 21) hx hb hts hinX5 hown hK hW (kc_9 g ad (set_m_nd (set_m_pm t (fun j => if decide (j < m_md t) = true then false else m_pm t j)) (fun j => if decide (j < m_md t) = true then false else m_nd t j))) rfl 13 (by decide) (hts (.fieldLink RX5 41 "DrillVaultModel" "dayRule" "I") (by decide +kernel)) rfl (v := .int (nI (m_r1 t))) rfl dX5_marks_35 ?_
        refine k_cv (va_runV (As := [.int (nI 1), .int (nI (m_r1 t))]) (rest := []) ⟨hx, hb, hml, hown, hts⟩ (c_X5_promises_0 l hlt g ad (set_m_nd (set_m_pm t (fun j => if decide (j < m_md t) = true then false else m_pm t j)) (fun j => if decide (j < m_md t) = true then false else m_nd t j)) (m_r1 t) hr1 hm60 hmo) (cwV 2 hts gX5_marks_X5_promises rfl rfl rfl (by decide +kernel) ⟨(Nat.le_of_ble_eq_true rfl), (Nat.le_of_ble_eq_true rfl)⟩) ⟨k_blind, k_recv hK hW (kc_9 g ad (set_m_nd (set_m_pm t (fun j => if decide (j < m_md t) = true then false else m_pm t j)) (fun j => if decide (j < m_md t) = true then false else m_nd t j))) rfl, fun U hU hw => ⟨rfl, k_I.of hK hZ hN hS hW hU hw⟩⟩ rfl rfl hl.1 rfl (lv_room (Nat.le_of_ble_eq_true rfl)) dX5_marks_38 ⟨(Nat.le_of_ble_eq_true rfl), (Nat.le_of_ble_eq_true rfl)⟩) hS (fun u H locs hpo hW hS => ?_)
        have hu9 := hpo.symm; subst hu9
        have hW : k_H g ad (set_m_pm (set_m_nd t (fun j => if decide (j < m_md t) = true then false else m_nd t j)) (fun j9 => (fun j => if decide (j < m_md t) = true then false else m_pm t j) j9 || k_sel (m_th t) (fun j => k_pd 0 (m_on t j)) (m_md t) (m_r1 t) (-1) j9)) H := hW
        refine lv_aload_n hx hb dX5_marks_41 rfl (lv_at hl 0 rfl) ?_
        refine lv_bipush (v := nI 7) hx hb dX5_marks_42 (by decide) ?_
        refine lv_aload_n hx hb dX5_marks_44 rfl (lv_at hl 0 rfl) ?_
        refine k_get (own := RX5) (C := RX5) (T := TX5) (N := 21) hx hb hts hinX5 hown hK hW (kc_9 g ad (set_m_pm (set_m_nd t (fun j => if decide (j < m_md t) = true then false else m_nd t j)) (fun j9 => (fun j => if decide (j < m_md t) = true then false else m_pm t j) j9 || k_sel (m_th t) (fun j => k_pd 0 (m_on t j)) (m_md t) (m_r1 t) (-1) j9))) rfl 14 (by decide) (hts (.fieldLink RX5 45 "DrillVaultModel" "weekRule" "I") (by decide +kernel)) rfl (v := .int (nI (m_r2 t))) rfl dX5_marks_45 ?_
        refine k_cv (va_runV (As := [.int (nI 7), .int (nI (m_r2 t))]) (rest := []) ⟨hx, hb, hml, hown, hts⟩ (c_X5_promises_1 l hlt g ad (set_m_pm (set_m_nd t (fun j => if decide (j < m_md t) = true then false else m_nd t j)) (fun j9 => (fun j => if decide (j < m_md t) = true then false else m_pm t j) j9 || k_sel (m_th t) (fun j => k_pd 0 (m_on t j)) (m_md t) (m_r1 t) (-1) j9)) (m_r2 t) hr2 hm60 hmo) (cwV 2 hts gX5_marks_X5_promises rfl rfl rfl (by decide +kernel) ⟨(Nat.le_of_ble_eq_true rfl), (Nat.le_of_ble_eq_true rfl)⟩) ⟨k_blind, k_recv hK hW (kc_9 g ad (set_m_pm (set_m_nd t (fun j => if decide (j < m_md t) = true then false else m_nd t j)) (fun j9 => (fun j => if decide (j < m_md t) = true then false else m_pm t j) j9 || k_sel (m_th t) (fun j => k_pd 0 (m_on t j)) (m_md t) (m_r1 t) (-1) j9))) rfl, fun U hU hw => ⟨rfl, k_I.of hK hZ hN hS hW hU hw⟩⟩ rfl rfl hl.1 rfl (lv_room (Nat.le_of_ble_eq_true rfl)) dX5_marks_48 ⟨(Nat.le_of_ble_eq_true rfl), (Nat.le_of_ble_eq_true rfl)⟩) hS (fun u H locs hpo hW hS => ?_)
        have hu9 := hpo.symm; subst hu9
        have hW : k_H g ad (set_m_pm (set_m_nd t (fun j => if decide (j < m_md t) = true then false else m_nd t j)) (fun j9 => (fun j9 => (fun j => if decide (j < m_md t) = true then false else m_pm t j) j9 || k_sel (m_th t) (fun j => k_pd 0 (m_on t j)) (m_md t) (m_r1 t) (-1) j9) j9 || k_sel (m_th t) (fun j => k_pd 1 (m_on t j)) (m_md t) (m_r2 t) (-1) j9)) H := hW
        refine lv_aload_n hx hb dX5_marks_51 rfl (lv_at hl 0 rfl) ?_
        refine lv_bipush (v := nI 28) hx hb dX5_marks_52 (by decide) ?_
        refine lv_aload_n hx hb dX5_marks_54 rfl (lv_at hl 0 rfl) ?_
        refine k_get (own := RX5) (C := RX5) (T := TX5) (N := 21) hx hb hts hinX5 hown hK hW (kc_9 g ad (set_m_pm (set_m_nd t (fun j => if decide (j < m_md t) = true then false else m_nd t j)) (fun j9 => (fun j9 => (fun j => if decide (j < m_md t) = true then false else m_pm t j) j9 || k_sel (m_th t) (fun j => k_pd 0 (m_on t j)) (m_md t) (m_r1 t) (-1) j9) j9 || k_sel (m_th t) (fun j => k_pd 1 (m_on t j)) (m_md t) (m_r2 t) (-1) j9))) rfl 15 (by decide) (hts (.fieldLink RX5 48 "DrillVaultModel" "monthRule" "I") (by decide +kernel)) rfl (v := .int (nI (m_r3 t))) rfl dX5_marks_55 ?_
        refine k_cv (va_runV (As := [.int (nI 28), .int (nI (m_r3 t))]) (rest := []) ⟨hx, hb, hml, hown, hts⟩ (c_X5_promises_2 l hlt g ad (set_m_pm (set_m_nd t (fun j => if decide (j < m_md t) = true then false else m_nd t j)) (fun j9 => (fun j9 => (fun j => if decide (j < m_md t) = true then false else m_pm t j) j9 || k_sel (m_th t) (fun j => k_pd 0 (m_on t j)) (m_md t) (m_r1 t) (-1) j9) j9 || k_sel (m_th t) (fun j => k_pd 1 (m_on t j)) (m_md t) (m_r2 t) (-1) j9)) (m_r3 t) hr3 hm60 hmo) (cwV 2 hts gX5_marks_X5_promises rfl rfl rfl (by decide +kernel) ⟨(Nat.le_of_ble_eq_true rfl), (Nat.le_of_ble_eq_true rfl)⟩) ⟨k_blind, k_recv hK hW (kc_9 g ad (set_m_pm (set_m_nd t (fun j => if decide (j < m_md t) = true then false else m_nd t j)) (fun j9 => (fun j9 => (fun j => if decide (j < m_md t) = true then false else m_pm t j) j9 || k_sel (m_th t) (fun j => k_pd 0 (m_on t j)) (m_md t) (m_r1 t) (-1) j9) j9 || k_sel (m_th t) (fun j => k_pd 1 (m_on t j)) (m_md t) (m_r2 t) (-1) j9))) rfl, fun U hU hw => ⟨rfl, k_I.of hK hZ hN hS hW hU hw⟩⟩ rfl rfl hl.1 rfl (lv_room (Nat.le_of_ble_eq_true rfl)) dX5_marks_58 ⟨(Nat.le_of_ble_eq_true rfl), (Nat.le_of_ble_eq_true rfl)⟩) hS (fun u H locs hpo hW hS => ?_)
        have hu9 := hpo.symm; subst hu9
        have hW : k_H g ad (set_m_pm (set_m_nd t (fun j => if decide (j < m_md t) = true then false else m_nd t j)) (fun j9 => (fun j9 => (fun j9 => (fun j => if decide (j < m_md t) = true then false else m_pm t j) j9 || k_sel (m_th t) (fun j => k_pd 0 (m_on t j)) (m_md t) (m_r1 t) (-1) j9) j9 || k_sel (m_th t) (fun j => k_pd 1 (m_on t j)) (m_md t) (m_r2 t) (-1) j9) j9 || k_sel (m_th t) (fun j => k_pd 2 (m_on t j)) (m_md t) (m_r3 t) (-1) j9)) H := hW
        have hW : k_H g ad (set_m_nd (set_m_pm t (k_PmM (m_md t) (m_th t) (m_pm t) (m_on t) (m_r1 t) (m_r2 t) (m_r3 t))) (fun j => if decide (j < m_md t) = true then false else m_nd t j)) H := by
          rw [show (k_PmM (m_md t) (m_th t) (m_pm t) (m_on t) (m_r1 t) (m_r2 t) (m_r3 t)) = (fun j9 => (fun j9 => (fun j9 => (fun j => if decide (j < m_md t) = true then false else m_pm t j) j9 || k_sel (m_th t) (fun j => k_pd 0 (m_on t j)) (m_md t) (m_r1 t) (-1) j9) j9 || k_sel (m_th t) (fun j => k_pd 1 (m_on t j)) (m_md t) (m_r2 t) (-1) j9) j9 || k_sel (m_th t) (fun j => k_pd 2 (m_on t j)) (m_md t) (m_r3 t) (-1) j9) from funext fun j => by simp only [k_PmM, k_P, Bool.or_assoc]]; exact hW
        refine lv_iconst (v := nI 0) hx hb dX5_marks_61 (by decide) ?_
        refine lv_istore_n (lv' := [(2, .int (nI 0)), (0, .ref (ad 9 0)), (1, .int (nI 0))]) hx hb dX5_marks_62 rfl hl (by decide) rfl (fun ls hl => ?_)
        have hloop_63 : ∀ (n : Nat) (i : Nat) (cn : Nat) (N1 : Nat → Bool), (m_md t < i + n) → (i ≤ m_md t) → (cn = k_cb (k_PmM (m_md t) (m_th t) (m_pm t) (m_on t) (m_r1 t) (m_r2 t) (m_r3 t)) i) → (∀ j, N1 j = ((fun j => if decide (j < m_md t) = true then false else m_nd t j) j || k_nd (fun _ => true) (k_PmM (m_md t) (m_th t) (m_pm t) (m_on t) (m_r1 t) (m_r2 t) (m_r3 t)) (m_b t) i j)) → ∀ (H : Heap) (locs : List Loc), k_H g ad (set_m_nd (set_m_pm t (k_PmM (m_md t) (m_th t) (m_pm t) (m_on t) (m_r1 t) (m_r2 t) (m_r3 t))) N1) H → va_S (k_A g) s.heap H locs → ∀ (ls : Array Slot), lv_has ls 4 [(0, .ref (ad 9 0)), (1, .int (nI cn)), (2, .int (nI i))] → W p l e rm_X5_marks s m args below meth c H locs 0 0 Q (F0 m 63 ls []) := by
          intro n
          induction n with
          | zero =>
            intro i cn N1 hfu hi hcn hN1
            exact absurd hfu (by omega)
          | succ n ih_63 =>
            intro i cn N1 hfu hi hcn hN1 H locs hW hS ls hl
            refine lv_iload_n hx hb dX5_marks_63 rfl (lv_at hl 2 rfl) ?_
            refine lv_aload_n hx hb dX5_marks_64 rfl (lv_at hl 0 rfl) ?_
            refine k_get (own := RX5) (C := RX5) (T := TX5) (N := 21) hx hb hts hinX5 hown hK hW (kc_9 g ad (set_m_nd (set_m_pm t (k_PmM (m_md t) (m_th t) (m_pm t) (m_on t) (m_r1 t) (m_r2 t) (m_r3 t))) N1)) rfl 12 (by decide) (hts (.fieldLink RX5 66 "DrillVaultModel" "made" "I") (by decide +kernel)) rfl (v := .int (nI (m_md t))) rfl dX5_marks_65 ?_
            refine k_icmp_ge (tgt := 127) hx hb (a := i) (b := m_md t) (by omega) (by omega) dX5_marks_68 (by decide) (fun h_68 => ?_) (fun h_68 => ?_)
            · refine lv_iload_n hx hb dX5_marks_127 rfl (lv_at hl 1 rfl) ?_
              exact k_ri hQ hx hb hr hlk hS hW ⟨by rw [hcn, show i = m_md t by omega], by rw [show N1 = (k_NmM (m_md t) (m_nd t) (k_PmM (m_md t) (m_th t) (m_pm t) (m_on t) (m_r1 t) (m_r2 t) (m_r3 t)) (m_b t)) from funext fun j => by rw [hN1 j, show i = m_md t by omega]; rfl]⟩ (Nat.le_of_ble_eq_true rfl) (Nat.le_of_ble_eq_true rfl) dX5_marks_128
            · refine lv_iload_n hx hb dX5_marks_71 rfl (lv_at hl 1 rfl) ?_
              refine lv_aload_n hx hb dX5_marks_72 rfl (lv_at hl 0 rfl) ?_
              refine k_get (own := RX5) (C := RX5) (T := TX5) (N := 21) hx hb hts hinX5 hown hK hW (kc_9 g ad (set_m_nd (set_m_pm t (k_PmM (m_md t) (m_th t) (m_pm t) (m_on t) (m_r1 t) (m_r2 t) (m_r3 t))) N1)) rfl 16 (by decide) (hts (.fieldLink RX5 51 "DrillVaultModel" "promised" "[Z") (by decide +kernel)) rfl (v := .ref (ad 20 0)) rfl dX5_marks_73 ?_
              refine lv_iload_n hx hb dX5_marks_76 rfl (lv_at hl 2 rfl) ?_
              refine k_zald hx hb hK hW (kc_20 g ad (set_m_nd (set_m_pm t (k_PmM (m_md t) (m_th t) (m_pm t) (m_on t) (m_r1 t) (m_r2 t) (m_r3 t))) N1)) i rfl (by omega) (by decide) dX5_marks_77 ?_
              refine k_tov (y := .int (kb ((k_PmM (m_md t) (m_th t) (m_pm t) (m_on t) (m_r1 t) (m_r2 t) (m_r3 t)) i))) rfl ?_
              refine k_ifz_eq (tgt := 85) hx hb dX5_marks_78 (by decide) (fun h_78 => ?_) (fun h_78 => ?_)
              · refine lv_iconst (v := nI 0) hx hb dX5_marks_85 (by decide) ?_
                refine k_iadd hx hb dX5_marks_86 ?_
                refine lv_istore_n (lv' := [(1, .int (nI (cn + 0))), (0, .ref (ad 9 0)), (2, .int (nI i))]) hx hb dX5_marks_87 rfl hl (by decide) rfl (fun ls hl => ?_)
                refine lv_iload_n hx hb dX5_marks_88 rfl (lv_at hl 2 rfl) ?_
                refine lv_istore_n (lv' := [(3, .int (nI i)), (1, .int (nI (cn + 0))), (0, .ref (ad 9 0)), (2, .int (nI i))]) hx hb dX5_marks_89 rfl hl (by decide) rfl (fun ls hl => ?_)
                refine lv_iload_n hx hb dX5_marks_90 rfl (lv_at hl 0 rfl) ?_
                refine lv_iconst (v := (-1)) hx hb dX5_marks_91 (by decide) ?_
                refine lv_icmp_eq (tgt := 121) hx hb dX5_marks_92 (by decide) (fun h_92 => absurd h_92 (k_nm1 (by omega))) (fun h_92 => ?_)
                refine lv_aload_n hx hb dX5_marks_95 rfl (lv_at hl 2 rfl) ?_
                refine k_get (own := RX5) (C := RX5) (T := TX5) (N := 21) hx hb hts hinX5 hown hK hW (kc_9 g ad (set_m_nd (set_m_pm t (k_PmM (m_md t) (m_th t) (m_pm t) (m_on t) (m_r1 t) (m_r2 t) (m_r3 t))) N1)) rfl 16 (by decide) (hts (.fieldLink RX5 51 "DrillVaultModel" "promised" "[Z") (by decide +kernel)) rfl (v := .ref (ad 20 0)) rfl dX5_marks_96 ?_
                refine lv_iload_n hx hb dX5_marks_99 rfl (lv_at hl 3 rfl) ?_
                refine k_zald hx hb hK hW (kc_20 g ad (set_m_nd (set_m_pm t (k_PmM (m_md t) (m_th t) (m_pm t) (m_on t) (m_r1 t) (m_r2 t) (m_r3 t))) N1)) i rfl (by omega) (by decide) dX5_marks_100 ?_
                refine k_tov (y := .int (kb ((k_PmM (m_md t) (m_th t) (m_pm t) (m_on t) (m_r1 t) (m_r2 t) (m_r3 t)) i))) rfl ?_
                refine k_ifz_eq (tgt := 121) hx hb dX5_marks_101 (by decide) (fun h_101 => ?_) (fun h_101 => absurd h_101 (fun q => absurd (h_78.symm.trans q) (by decide)))
                refine lv_iinc (v := nI (i + 1)) (lv' := [(2, .int (nI (i + 1))), (3, .int (nI i)), (1, .int (nI (cn + 0))), (0, .ref (ad 9 0))]) hx hb dX5_marks_121 hl (k := 3) rfl (nI_add _ _) (by decide) rfl (fun ls hl => ?_)
                refine lv_goto (tgt := 63) hx hb dX5_marks_124 (by decide) ?_
                exact ih_63 (i + 1) (cn + 0) N1 (by omega) (by omega) (by rw [k_cb_n h_78, hcn, Nat.add_zero]) (fun j => by rw [hN1 j, k_nd_n (by rw [h_78]; rfl)]) _ _ hW hS _ (lv_sub hl [3, 2, 0] rfl)
              · refine lv_iconst (v := nI 1) hx hb dX5_marks_81 (by decide) ?_
                refine lv_goto (tgt := 86) hx hb dX5_marks_82 (by decide) ?_
                refine k_iadd hx hb dX5_marks_86 ?_
                refine lv_istore_n (lv' := [(1, .int (nI (cn + 1))), (0, .ref (ad 9 0)), (2, .int (nI i))]) hx hb dX5_marks_87 rfl hl (by decide) rfl (fun ls hl => ?_)
                refine lv_iload_n hx hb dX5_marks_88 rfl (lv_at hl 2 rfl) ?_
                refine lv_istore_n (lv' := [(3, .int (nI i)), (1, .int (nI (cn + 1))), (0, .ref (ad 9 0)), (2, .int (nI i))]) hx hb dX5_marks_89 rfl hl (by decide) rfl (fun ls hl => ?_)
                have hloop_90 : ∀ (n : Nat) (cur : Option Nat) (N2 : Nat → Bool), (0 < n) → (∀ q, cur = some q → q + 1 < n ∧ q < m_md t) → (∀ j, (fun j => N1 j || (k_cl (m_b t) i).contains j) j = (N2 j || (k_clo (m_b t) cur).contains j)) → ∀ (H : Heap) (locs : List Loc), k_H g ad (set_m_nd (set_m_pm t (k_PmM (m_md t) (m_th t) (m_pm t) (m_on t) (m_r1 t) (m_r2 t) (m_r3 t))) N2) H → va_S (k_A g) s.heap H locs → ∀ (ls : Array Slot), lv_has ls 4 [(0, .ref (ad 9 0)), (1, .int (nI (cn + 1))), (2, .int (nI i)), (3, .int (kO cur))] → W p l e rm_X5_marks s m args below meth c H locs 0 0 Q (F0 m 90 ls []) := by
                  intro n
                  induction n with
                  | zero =>
                    intro cur N2 hfu2 hck hN2
                    exact absurd hfu2 (by omega)
                  | succ n ih_90 =>
                    intro cur N2 hfu2 hck hN2 H locs hW hS ls hl
                    rcases cur with _ | k
                    · have hl : lv_has ls 4 [(0, .ref (ad 9 0)), (1, .int (nI (cn + 1))), (2, .int (nI i)), (3, .int (-1))] := hl
                      refine lv_iload_n hx hb dX5_marks_90 rfl (lv_at hl 3 rfl) ?_
                      refine lv_iconst (v := (-1)) hx hb dX5_marks_91 (by decide) ?_
                      refine lv_icmp_eq (tgt := 121) hx hb dX5_marks_92 (by decide) (fun h_92 => ?_) (fun h_92 => absurd rfl h_92)
                      refine lv_iinc (v := nI (i + 1)) (lv' := [(2, .int (nI (i + 1))), (0, .ref (ad 9 0)), (1, .int (nI (cn + 1))), (3, .int (-1))]) hx hb dX5_marks_121 hl (k := 2) rfl (nI_add _ _) (by decide) rfl (fun ls hl => ?_)
                      refine lv_goto (tgt := 63) hx hb dX5_marks_124 (by decide) ?_
                      exact ih_63 (i + 1) (cn + 1) N2 (by omega) (by omega) (by rw [k_cb_y h_78, hcn]) (fun j => by rw [k_out hN2 j, k_nd_y rfl h_78, ← Bool.or_assoc, ← hN1 j]) _ _ hW hS _ (lv_sub hl [1, 2, 0] rfl)
                    · have hl : lv_has ls 4 [(0, .ref (ad 9 0)), (1, .int (nI (cn + 1))), (2, .int (nI i)), (3, .int (nI k))] := hl
                      have hkm : k < m_md t := (hck _ rfl).2
                      have hdk : ∀ b, m_b t k = some b → b < k := fun b hb => hmb _ _ hkm hb
                      rw [k_clo_some hdk] at hN2
                      refine lv_iload_n hx hb dX5_marks_90 rfl (lv_at hl 3 rfl) ?_
                      refine lv_iconst (v := (-1)) hx hb dX5_marks_91 (by decide) ?_
                      refine lv_icmp_eq (tgt := 121) hx hb dX5_marks_92 (by decide) (fun h_92 => absurd h_92 (k_nm1 (by omega))) (fun h_92 => ?_)
                      refine lv_aload_n hx hb dX5_marks_95 rfl (lv_at hl 0 rfl) ?_
                      refine k_get (own := RX5) (C := RX5) (T := TX5) (N := 21) hx hb hts hinX5 hown hK hW (kc_9 g ad (set_m_nd (set_m_pm t (k_PmM (m_md t) (m_th t) (m_pm t) (m_on t) (m_r1 t) (m_r2 t) (m_r3 t))) N2)) rfl 16 (by decide) (hts (.fieldLink RX5 51 "DrillVaultModel" "promised" "[Z") (by decide +kernel)) rfl (v := .ref (ad 20 0)) rfl dX5_marks_96 ?_
                      refine lv_iload_n hx hb dX5_marks_99 rfl (lv_at hl 2 rfl) ?_
                      refine k_zald hx hb hK hW (kc_20 g ad (set_m_nd (set_m_pm t (k_PmM (m_md t) (m_th t) (m_pm t) (m_on t) (m_r1 t) (m_r2 t) (m_r3 t))) N2)) i rfl (by omega) (by decide) dX5_marks_100 ?_
                      refine k_tov (y := .int (kb ((k_PmM (m_md t) (m_th t) (m_pm t) (m_on t) (m_r1 t) (m_r2 t) (m_r3 t)) i))) rfl ?_
                      refine k_ifz_eq (tgt := 121) hx hb dX5_marks_101 (by decide) (fun h_101 => absurd h_101 (fun q => absurd (h_78.symm.trans q) (by decide))) (fun h_101 => ?_)
                      sorry
                exact hloop_90 (i + 2) (some i) N1 (by omega) (fun q hq => by cases hq; exact ⟨by omega, h_68⟩) (fun j => rfl) _ _ hW hS _ (lv_sub hl [2, 1, 3, 0] rfl)
        exact hloop_63 (m_md t + 1) 0 0 ((fun j => if decide (j < m_md t) = true then false else m_nd t j)) (by omega) (by omega) rfl (fun j => (Bool.or_false _).symm) _ _ hW hS _ (lv_sub hl [1, 2, 0] rfl)
      · refine lv_aload_n hx hb dX5_marks_12 rfl (lv_at hl 0 rfl) ?_
        refine k_get (own := RX5) (C := RX5) (T := TX5) (N := 21) hx hb hts hinX5 hown hK hW (kc_9 g ad (set_m_nd (set_m_pm t P1) N1)) rfl 16 (by decide) (hts (.fieldLink RX5 51 "DrillVaultModel" "promised" "[Z") (by decide +kernel)) rfl (v := .ref (ad 20 0)) rfl dX5_marks_13 ?_
        refine lv_iload_n hx hb dX5_marks_16 rfl (lv_at hl 2 rfl) ?_
        refine lv_iconst (v := nI 0) hx hb dX5_marks_17 (by decide) ?_
        refine k_zast hx hb hK hW hS (kc_20 g ad (set_m_nd (set_m_pm t P1) N1)) rfl i rfl (by omega) (by decide) dX5_marks_18 (fun H locs hW hS => ?_)
        have hW : k_H g ad (set_m_pm (set_m_nd t N1) (va_up P1 i false)) H := kt_m_pm (t := set_m_nd (set_m_pm t P1) N1) i false rfl hW
        refine lv_aload_n hx hb dX5_marks_19 rfl (lv_at hl 0 rfl) ?_
        refine k_get (own := RX5) (C := RX5) (T := TX5) (N := 21) hx hb hts hinX5 hown hK hW (kc_9 g ad (set_m_pm (set_m_nd t N1) (va_up P1 i false))) rfl 17 (by decide) (hts (.fieldLink RX5 54 "DrillVaultModel" "needed" "[Z") (by decide +kernel)) rfl (v := .ref (ad 21 0)) rfl dX5_marks_20 ?_
        refine lv_iload_n hx hb dX5_marks_23 rfl (lv_at hl 2 rfl) ?_
        refine lv_iconst (v := nI 0) hx hb dX5_marks_24 (by decide) ?_
        refine k_zast hx hb hK hW hS (kc_21 g ad (set_m_pm (set_m_nd t N1) (va_up P1 i false))) rfl i rfl (by omega) (by decide) dX5_marks_25 (fun H locs hW hS => ?_)
        have hW : k_H g ad (set_m_nd (set_m_pm t (va_up P1 i false)) (va_up N1 i false)) H := kt_m_nd (t := set_m_pm (set_m_nd t N1) (va_up P1 i false)) i false rfl hW
        refine lv_iinc (v := nI (i + 1)) (lv' := [(2, .int (nI (i + 1))), (0, .ref (ad 9 0)), (1, .int (nI 0))]) hx hb dX5_marks_26 hl (k := 2) rfl (nI_add _ _) (by decide) rfl (fun ls hl => ?_)
        refine lv_goto (tgt := 4) hx hb dX5_marks_29 (by decide) ?_
        exact ih (i + 1) (va_up P1 i false) (va_up N1 i false) (by omega) (by omega) (k_rs hP1 (k_lm h_9) rfl) (k_rs hN1 (k_lm h_9) rfl) _ _ hW hS _ (lv_sub hl [1, 2, 0] rfl)
  exact hloop_4 (m_md t + 1) 0 (m_pm t) (m_nd t) (by omega) (by omega) k_rs_0 k_rs_0 _ _ hW hS _ (lv_sub hl [2, 1, 0] rfl)
set_option maxRecDepth 100000 in
set_option maxHeartbeats 4000000 in
theorem c_X5_marks_try6 (l : Launch) (hlt : l.stackTraces = false) (g : k_g) (ad : k_AD) (t : k_T) (hm60 : m_md t ≤ 60) (hmb : ∀ k b, k < m_md t → m_b t k = some b → b < k) (hmo : ∀ j, j < m_md t → m_on t j ≤ 360) (hr1 : m_r1 t ≤ 30) (hr2 : m_r2 t ≤ 30) (hr3 : m_r3 t ≤ 30) : Met l yX5_marks wsX5_marks rm_X5_marks (va_Pc [.ref (ad 9 0)] (k_I g (k_ct g ad t) ad)) (va_Qi (fun r u => r = nI (k_cb (k_PmM (m_md t) (m_th t) (m_pm t) (m_on t) (m_r1 t) (m_r2 t) (m_r3 t)) (m_md t)) ∧ u = set_m_nd (set_m_pm t (k_PmM (m_md t) (m_th t) (m_pm t) (m_on t) (m_r1 t) (m_r2 t) (m_r3 t))) (k_NmM (m_md t) (m_nd t) (k_PmM (m_md t) (m_th t) (m_pm t) (m_on t) (m_r1 t) (m_r2 t) (m_r3 t)) (m_b t))) (fun u U => k_H g ad u U.heap) (k_A g)) 0 0 (k_A g) := by
  refine k_met (cc := cX5_marks) (maxL := 4) (ret := (some .int)) (by decide) rfl (Nat.le_of_ble_eq_true rfl) (fun p e s m args below meth c Q ls hQ hx hb hr hml hts hown hlk hin hK hZ hN hW hS hl => ?_)
  have hown : s.vm.findClass RX5 = some m.cls := hown
  have hW : k_H g ad t s.heap := hW
  have hl : lv_has ls 4 [(0, .ref (ad 9 0))] := hl
  have hinX5 : ∀ w ∈ wsX50, w ∈ wsX5_marks := by decide +kernel
  refine lv_iconst (v := nI 0) hx hb dX5_marks_0 (by decide) ?_
  refine lv_istore_n (lv' := [(1, .int (nI 0)), (0, .ref (ad 9 0))]) hx hb dX5_marks_1 rfl hl (by decide) rfl (fun ls hl => ?_)
  refine lv_iconst (v := nI 0) hx hb dX5_marks_2 (by decide) ?_
  refine lv_istore_n (lv' := [(2, .int (nI 0)), (1, .int (nI 0)), (0, .ref (ad 9 0))]) hx hb dX5_marks_3 rfl hl (by decide) rfl (fun ls hl => ?_)
  have hloop_4 : ∀ (n : Nat) (i : Nat) (P1 : Nat → Bool) (N1 : Nat → Bool), (m_md t < i + n) → (i ≤ m_md t) → (∀ j, P1 j = if (decide (j < i) && (fun j => decide (j < m_md t)) j) = true then (fun _ => false) j else m_pm t j) → (∀ j, N1 j = if (decide (j < i) && (fun j => decide (j < m_md t)) j) = true then (fun _ => false) j else m_nd t j) → ∀ (H : Heap) (locs : List Loc), k_H g ad (set_m_nd (set_m_pm t P1) N1) H → va_S (k_A g) s.heap H locs → ∀ (ls : Array Slot), lv_has ls 4 [(0, .ref (ad 9 0)), (1, .int (nI 0)), (2, .int (nI i))] → W p l e rm_X5_marks s m args below meth c H locs 0 0 Q (F0 m 4 ls []) := by
    intro n
    induction n with
    | zero =>
      intro i P1 N1 hfu hi hP1 hN1
      exact absurd hfu (by omega)
    | succ n ih =>
      intro i P1 N1 hfu hi hP1 hN1 H locs hW hS ls hl
      refine lv_iload_n hx hb dX5_marks_4 rfl (lv_at hl 2 rfl) ?_
      refine lv_aload_n hx hb dX5_marks_5 rfl (lv_at hl 0 rfl) ?_
      refine k_get (own := RX5) (C := RX5) (T := TX5) (N := 21) hx hb hts hinX5 hown hK hW (kc_9 g ad (set_m_nd (set_m_pm t P1) N1)) rfl 12 (by decide) (hts (.fieldLink RX5 66 "DrillVaultModel" "made" "I") (by decide +kernel)) rfl (v := .int (nI (m_md t))) rfl dX5_marks_6 ?_
      refine k_icmp_ge (tgt := 32) hx hb (a := i) (b := m_md t) (by omega) (by omega) dX5_marks_9 (by decide) (fun h_9 => ?_) (fun h_9 => ?_)
      · have hPe := k_rs_e hP1 k_lmw (show m_md t ≤ i by omega); have hNe := k_rs_e hN1 k_lmw (show m_md t ≤ i by omega)
        subst hPe; subst hNe
        have hW : k_H g ad (set_m_nd (set_m_pm t (fun j => if decide (j < m_md t) = true then false else m_pm t j)) (fun j => if decide (j < m_md t) = true then false else m_nd t j)) H := hW
        refine lv_aload_n hx hb dX5_marks_32 rfl (lv_at hl 0 rfl) ?_
        refine lv_iconst (v := nI 1) hx hb dX5_marks_33 (by decide) ?_
        refine lv_aload_n hx hb dX5_marks_34 rfl (lv_at hl 0 rfl) ?_
        refine k_get (own := RX5) (C := RX5) (T := TX5) (N := 21) hx hb hts hinX5 hown hK hW (kc_9 g ad (set_m_nd (set_m_pm t (fun j => if decide (j < m_md t) = true then false else m_pm t j)) (fun j => if decide (j < m_md t) = true then false else m_nd t j))) rfl 13 (by decide) (hts (.fieldLink RX5 41 "DrillVaultModel" "dayRule" "I") (by decide +kernel)) rfl (v := .int (nI (m_r1 t))) rfl dX5_marks_35 ?_
        refine k_cv (va_runV (As := [.int (nI 1), .int (nI (m_r1 t))]) (rest := []) ⟨hx, hb, hml, hown, hts⟩ (c_X5_promises_0 l hlt g ad (set_m_nd (set_m_pm t (fun j => if decide (j < m_md t) = true then false else m_pm t j)) (fun j => if decide (j < m_md t) = true then false else m_nd t j)) (m_r1 t) hr1 hm60 hmo) (cwV 2 hts gX5_marks_X5_promises rfl rfl rfl (by decide +kernel) ⟨(Nat.le_of_ble_eq_true rfl), (Nat.le_of_ble_eq_true rfl)⟩) ⟨k_blind, k_recv hK hW (kc_9 g ad (set_m_nd (set_m_pm t (fun j => if decide (j < m_md t) = true then false else m_pm t j)) (fun j => if decide (j < m_md t) = true then false else m_nd t j))) rfl, fun U hU hw => ⟨rfl, k_I.of hK hZ hN hS hW hU hw⟩⟩ rfl rfl hl.1 rfl (lv_room (Nat.le_of_ble_eq_true rfl)) dX5_marks_38 ⟨(Nat.le_of_ble_eq_true rfl), (Nat.le_of_ble_eq_true rfl)⟩) hS (fun u H locs hpo hW hS => ?_)
        have hu9 := hpo.symm; subst hu9
        have hW : k_H g ad (set_m_pm (set_m_nd t (fun j => if decide (j < m_md t) = true then false else m_nd t j)) (fun j9 => (fun j => if decide (j < m_md t) = true then false else m_pm t j) j9 || k_sel (m_th t) (fun j => k_pd 0 (m_on t j)) (m_md t) (m_r1 t) (-1) j9)) H := hW
        refine lv_aload_n hx hb dX5_marks_41 rfl (lv_at hl 0 rfl) ?_
        refine lv_bipush (v := nI 7) hx hb dX5_marks_42 (by decide) ?_
        refine lv_aload_n hx hb dX5_marks_44 rfl (lv_at hl 0 rfl) ?_
        refine k_get (own := RX5) (C := RX5) (T := TX5) (N := 21) hx hb hts hinX5 hown hK hW (kc_9 g ad (set_m_pm (set_m_nd t (fun j => if decide (j < m_md t) = true then false else m_nd t j)) (fun j9 => (fun j => if decide (j < m_md t) = true then false else m_pm t j) j9 || k_sel (m_th t) (fun j => k_pd 0 (m_on t j)) (m_md t) (m_r1 t) (-1) j9))) rfl 14 (by decide) (hts (.fieldLink RX5 45 "DrillVaultModel" "weekRule" "I") (by decide +kernel)) rfl (v := .int (nI (m_r2 t))) rfl dX5_marks_45 ?_
        refine k_cv (va_runV (As := [.int (nI 7), .int (nI (m_r2 t))]) (rest := []) ⟨hx, hb, hml, hown, hts⟩ (c_X5_promises_1 l hlt g ad (set_m_pm (set_m_nd t (fun j => if decide (j < m_md t) = true then false else m_nd t j)) (fun j9 => (fun j => if decide (j < m_md t) = true then false else m_pm t j) j9 || k_sel (m_th t) (fun j => k_pd 0 (m_on t j)) (m_md t) (m_r1 t) (-1) j9)) (m_r2 t) hr2 hm60 hmo) (cwV 2 hts gX5_marks_X5_promises rfl rfl rfl (by decide +kernel) ⟨(Nat.le_of_ble_eq_true rfl), (Nat.le_of_ble_eq_true rfl)⟩) ⟨k_blind, k_recv hK hW (kc_9 g ad (set_m_pm (set_m_nd t (fun j => if decide (j < m_md t) = true then false else m_nd t j)) (fun j9 => (fun j => if decide (j < m_md t) = true then false else m_pm t j) j9 || k_sel (m_th t) (fun j => k_pd 0 (m_on t j)) (m_md t) (m_r1 t) (-1) j9))) rfl, fun U hU hw => ⟨rfl, k_I.of hK hZ hN hS hW hU hw⟩⟩ rfl rfl hl.1 rfl (lv_room (Nat.le_of_ble_eq_true rfl)) dX5_marks_48 ⟨(Nat.le_of_ble_eq_true rfl), (Nat.le_of_ble_eq_true rfl)⟩) hS (fun u H locs hpo hW hS => ?_)
        have hu9 := hpo.symm; subst hu9
        have hW : k_H g ad (set_m_pm (set_m_nd t (fun j => if decide (j < m_md t) = true then false else m_nd t j)) (fun j9 => (fun j9 => (fun j => if decide (j < m_md t) = true then false else m_pm t j) j9 || k_sel (m_th t) (fun j => k_pd 0 (m_on t j)) (m_md t) (m_r1 t) (-1) j9) j9 || k_sel (m_th t) (fun j => k_pd 1 (m_on t j)) (m_md t) (m_r2 t) (-1) j9)) H := hW
        refine lv_aload_n hx hb dX5_marks_51 rfl (lv_at hl 0 rfl) ?_
        refine lv_bipush (v := nI 28) hx hb dX5_marks_52 (by decide) ?_
        refine lv_aload_n hx hb dX5_marks_54 rfl (lv_at hl 0 rfl) ?_
        refine k_get (own := RX5) (C := RX5) (T := TX5) (N := 21) hx hb hts hinX5 hown hK hW (kc_9 g ad (set_m_pm (set_m_nd t (fun j => if decide (j < m_md t) = true then false else m_nd t j)) (fun j9 => (fun j9 => (fun j => if decide (j < m_md t) = true then false else m_pm t j) j9 || k_sel (m_th t) (fun j => k_pd 0 (m_on t j)) (m_md t) (m_r1 t) (-1) j9) j9 || k_sel (m_th t) (fun j => k_pd 1 (m_on t j)) (m_md t) (m_r2 t) (-1) j9))) rfl 15 (by decide) (hts (.fieldLink RX5 48 "DrillVaultModel" "monthRule" "I") (by decide +kernel)) rfl (v := .int (nI (m_r3 t))) rfl dX5_marks_55 ?_
        refine k_cv (va_runV (As := [.int (nI 28), .int (nI (m_r3 t))]) (rest := []) ⟨hx, hb, hml, hown, hts⟩ (c_X5_promises_2 l hlt g ad (set_m_pm (set_m_nd t (fun j => if decide (j < m_md t) = true then false else m_nd t j)) (fun j9 => (fun j9 => (fun j => if decide (j < m_md t) = true then false else m_pm t j) j9 || k_sel (m_th t) (fun j => k_pd 0 (m_on t j)) (m_md t) (m_r1 t) (-1) j9) j9 || k_sel (m_th t) (fun j => k_pd 1 (m_on t j)) (m_md t) (m_r2 t) (-1) j9)) (m_r3 t) hr3 hm60 hmo) (cwV 2 hts gX5_marks_X5_promises rfl rfl rfl (by decide +kernel) ⟨(Nat.le_of_ble_eq_true rfl), (Nat.le_of_ble_eq_true rfl)⟩) ⟨k_blind, k_recv hK hW (kc_9 g ad (set_m_pm (set_m_nd t (fun j => if decide (j < m_md t) = true then false else m_nd t j)) (fun j9 => (fun j9 => (fun j => if decide (j < m_md t) = true then false else m_pm t j) j9 || k_sel (m_th t) (fun j => k_pd 0 (m_on t j)) (m_md t) (m_r1 t) (-1) j9) j9 || k_sel (m_th t) (fun j => k_pd 1 (m_on t j)) (m_md t) (m_r2 t) (-1) j9))) rfl, fun U hU hw => ⟨rfl, k_I.of hK hZ hN hS hW hU hw⟩⟩ rfl rfl hl.1 rfl (lv_room (Nat.le_of_ble_eq_true rfl)) dX5_marks_58 ⟨(Nat.le_of_ble_eq_true rfl), (Nat.le_of_ble_eq_true rfl)⟩) hS (fun u H locs hpo hW hS => ?_)
        have hu9 := hpo.symm; subst hu9
        have hW : k_H g ad (set_m_pm (set_m_nd t (fun j => if decide (j < m_md t) = true then false else m_nd t j)) (fun j9 => (fun j9 => (fun j9 => (fun j => if decide (j < m_md t) = true then false else m_pm t j) j9 || k_sel (m_th t) (fun j => k_pd 0 (m_on t j)) (m_md t) (m_r1 t) (-1) j9) j9 || k_sel (m_th t) (fun j => k_pd 1 (m_on t j)) (m_md t) (m_r2 t) (-1) j9) j9 || k_sel (m_th t) (fun j => k_pd 2 (m_on t j)) (m_md t) (m_r3 t) (-1) j9)) H := hW
        have hW : k_H g ad (set_m_nd (set_m_pm t (k_PmM (m_md t) (m_th t) (m_pm t) (m_on t) (m_r1 t) (m_r2 t) (m_r3 t))) (fun j => if decide (j < m_md t) = true then false else m_nd t j)) H := by
          rw [show (k_PmM (m_md t) (m_th t) (m_pm t) (m_on t) (m_r1 t) (m_r2 t) (m_r3 t)) = (fun j9 => (fun j9 => (fun j9 => (fun j => if decide (j < m_md t) = true then false else m_pm t j) j9 || k_sel (m_th t) (fun j => k_pd 0 (m_on t j)) (m_md t) (m_r1 t) (-1) j9) j9 || k_sel (m_th t) (fun j => k_pd 1 (m_on t j)) (m_md t) (m_r2 t) (-1) j9) j9 || k_sel (m_th t) (fun j => k_pd 2 (m_on t j)) (m_md t) (m_r3 t) (-1) j9) from funext fun j => by simp only [k_PmM, k_P, Bool.or_assoc]]; exact hW
        refine lv_iconst (v := nI 0) hx hb dX5_marks_61 (by decide) ?_
        refine lv_istore_n (lv' := [(2, .int (nI 0)), (0, .ref (ad 9 0)), (1, .int (nI 0))]) hx hb dX5_marks_62 rfl hl (by decide) rfl (fun ls hl => ?_)
        have hloop_63 : ∀ (n : Nat) (i : Nat) (cn : Nat) (N1 : Nat → Bool), (m_md t < i + n) → (i ≤ m_md t) → (cn = k_cb (k_PmM (m_md t) (m_th t) (m_pm t) (m_on t) (m_r1 t) (m_r2 t) (m_r3 t)) i) → (∀ j, N1 j = ((fun j => if decide (j < m_md t) = true then false else m_nd t j) j || k_nd (fun _ => true) (k_PmM (m_md t) (m_th t) (m_pm t) (m_on t) (m_r1 t) (m_r2 t) (m_r3 t)) (m_b t) i j)) → ∀ (H : Heap) (locs : List Loc), k_H g ad (set_m_nd (set_m_pm t (k_PmM (m_md t) (m_th t) (m_pm t) (m_on t) (m_r1 t) (m_r2 t) (m_r3 t))) N1) H → va_S (k_A g) s.heap H locs → ∀ (ls : Array Slot), lv_has ls 4 [(0, .ref (ad 9 0)), (1, .int (nI cn)), (2, .int (nI i))] → W p l e rm_X5_marks s m args below meth c H locs 0 0 Q (F0 m 63 ls []) := by
          intro n
          induction n with
          | zero =>
            intro i cn N1 hfu hi hcn hN1
            exact absurd hfu (by omega)
          | succ n ih_63 =>
            intro i cn N1 hfu hi hcn hN1 H locs hW hS ls hl
            refine lv_iload_n hx hb dX5_marks_63 rfl (lv_at hl 2 rfl) ?_
            refine lv_aload_n hx hb dX5_marks_64 rfl (lv_at hl 0 rfl) ?_
            refine k_get (own := RX5) (C := RX5) (T := TX5) (N := 21) hx hb hts hinX5 hown hK hW (kc_9 g ad (set_m_nd (set_m_pm t (k_PmM (m_md t) (m_th t) (m_pm t) (m_on t) (m_r1 t) (m_r2 t) (m_r3 t))) N1)) rfl 12 (by decide) (hts (.fieldLink RX5 66 "DrillVaultModel" "made" "I") (by decide +kernel)) rfl (v := .int (nI (m_md t))) rfl dX5_marks_65 ?_
            refine k_icmp_ge (tgt := 127) hx hb (a := i) (b := m_md t) (by omega) (by omega) dX5_marks_68 (by decide) (fun h_68 => ?_) (fun h_68 => ?_)
            · refine lv_iload_n hx hb dX5_marks_127 rfl (lv_at hl 1 rfl) ?_
              exact k_ri hQ hx hb hr hlk hS hW ⟨by rw [hcn, show i = m_md t by omega], by rw [show N1 = (k_NmM (m_md t) (m_nd t) (k_PmM (m_md t) (m_th t) (m_pm t) (m_on t) (m_r1 t) (m_r2 t) (m_r3 t)) (m_b t)) from funext fun j => by rw [hN1 j, show i = m_md t by omega]; rfl]⟩ (Nat.le_of_ble_eq_true rfl) (Nat.le_of_ble_eq_true rfl) dX5_marks_128
            · refine lv_iload_n hx hb dX5_marks_71 rfl (lv_at hl 1 rfl) ?_
              refine lv_aload_n hx hb dX5_marks_72 rfl (lv_at hl 0 rfl) ?_
              refine k_get (own := RX5) (C := RX5) (T := TX5) (N := 21) hx hb hts hinX5 hown hK hW (kc_9 g ad (set_m_nd (set_m_pm t (k_PmM (m_md t) (m_th t) (m_pm t) (m_on t) (m_r1 t) (m_r2 t) (m_r3 t))) N1)) rfl 16 (by decide) (hts (.fieldLink RX5 51 "DrillVaultModel" "promised" "[Z") (by decide +kernel)) rfl (v := .ref (ad 20 0)) rfl dX5_marks_73 ?_
              refine lv_iload_n hx hb dX5_marks_76 rfl (lv_at hl 2 rfl) ?_
              refine k_zald hx hb hK hW (kc_20 g ad (set_m_nd (set_m_pm t (k_PmM (m_md t) (m_th t) (m_pm t) (m_on t) (m_r1 t) (m_r2 t) (m_r3 t))) N1)) i rfl (by omega) (by decide) dX5_marks_77 ?_
              refine k_tov (y := .int (kb ((k_PmM (m_md t) (m_th t) (m_pm t) (m_on t) (m_r1 t) (m_r2 t) (m_r3 t)) i))) rfl ?_
              refine k_ifz_eq (tgt := 85) hx hb dX5_marks_78 (by decide) (fun h_78 => ?_) (fun h_78 => ?_)
              · refine lv_iconst (v := nI 0) hx hb dX5_marks_85 (by decide) ?_
                refine k_iadd hx hb dX5_marks_86 ?_
                refine lv_istore_n (lv' := [(1, .int (nI (cn + 0))), (0, .ref (ad 9 0)), (2, .int (nI i))]) hx hb dX5_marks_87 rfl hl (by decide) rfl (fun ls hl => ?_)
                refine lv_iload_n hx hb dX5_marks_88 rfl (lv_at hl 2 rfl) ?_
                refine lv_istore_n (lv' := [(3, .int (nI i)), (1, .int (nI (cn + 0))), (0, .ref (ad 9 0)), (2, .int (nI i))]) hx hb dX5_marks_89 rfl hl (by decide) rfl (fun ls hl => ?_)
                refine lv_iload_n hx hb dX5_marks_90 rfl (lv_at hl 0 rfl) ?_
                refine lv_iconst (v := (-1)) hx hb dX5_marks_91 (by decide) ?_
                refine lv_icmp_eq (tgt := 121) hx hb dX5_marks_92 (by decide) (fun h_92 => absurd h_92 (k_nm1 (by omega))) (fun h_92 => ?_)
                refine lv_aload_n hx hb dX5_marks_95 rfl (lv_at hl 2 rfl) ?_
                refine k_get (own := RX5) (C := RX5) (T := TX5) (N := 21) hx hb hts hinX5 hown hK hW (kc_9 g ad (set_m_nd (set_m_pm t (k_PmM (m_md t) (m_th t) (m_pm t) (m_on t) (m_r1 t) (m_r2 t) (m_r3 t))) N1)) rfl 16 (by decide) (hts (.fieldLink RX5 51 "DrillVaultModel" "promised" "[Z") (by decide +kernel)) rfl (v := .ref (ad 20 0)) rfl dX5_marks_96 ?_
                refine lv_iload_n hx hb dX5_marks_99 rfl (lv_at hl 3 rfl) ?_
                refine k_zald hx hb hK hW (kc_20 g ad (set_m_nd (set_m_pm t (k_PmM (m_md t) (m_th t) (m_pm t) (m_on t) (m_r1 t) (m_r2 t) (m_r3 t))) N1)) i rfl (by omega) (by decide) dX5_marks_100 ?_
                refine k_tov (y := .int (kb ((k_PmM (m_md t) (m_th t) (m_pm t) (m_on t) (m_r1 t) (m_r2 t) (m_r3 t)) i))) rfl ?_
                refine k_ifz_eq (tgt := 121) hx hb dX5_marks_101 (by decide) (fun h_101 => ?_) (fun h_101 => absurd h_101 (fun q => absurd (h_78.symm.trans q) (by decide)))
                refine lv_iinc (v := nI (i + 1)) (lv' := [(2, .int (nI (i + 1))), (3, .int (nI i)), (1, .int (nI (cn + 0))), (0, .ref (ad 9 0))]) hx hb dX5_marks_121 hl (k := 3) rfl (nI_add _ _) (by decide) rfl (fun ls hl => ?_)
                refine lv_goto (tgt := 63) hx hb dX5_marks_124 (by decide) ?_
                exact ih_63 (i + 1) (cn + 0) N1 (by omega) (by omega) (by rw [k_cb_n h_78, hcn, Nat.add_zero]) (fun j => by rw [hN1 j, k_nd_n (by rw [h_78]; rfl)]) _ _ hW hS _ (lv_sub hl [3, 2, 0] rfl)
              · refine lv_iconst (v := nI 1) hx hb dX5_marks_81 (by decide) ?_
                refine lv_goto (tgt := 86) hx hb dX5_marks_82 (by decide) ?_
                refine k_iadd hx hb dX5_marks_86 ?_
                refine lv_istore_n (lv' := [(1, .int (nI (cn + 1))), (0, .ref (ad 9 0)), (2, .int (nI i))]) hx hb dX5_marks_87 rfl hl (by decide) rfl (fun ls hl => ?_)
                refine lv_iload_n hx hb dX5_marks_88 rfl (lv_at hl 2 rfl) ?_
                refine lv_istore_n (lv' := [(3, .int (nI i)), (1, .int (nI (cn + 1))), (0, .ref (ad 9 0)), (2, .int (nI i))]) hx hb dX5_marks_89 rfl hl (by decide) rfl (fun ls hl => ?_)
                have hloop_90 : ∀ (n : Nat) (cur : Option Nat) (N2 : Nat → Bool), (0 < n) → (∀ q, cur = some q → q + 1 < n ∧ q < m_md t) → (∀ j, (fun j => N1 j || (k_cl (m_b t) i).contains j) j = (N2 j || (k_clo (m_b t) cur).contains j)) → ∀ (H : Heap) (locs : List Loc), k_H g ad (set_m_nd (set_m_pm t (k_PmM (m_md t) (m_th t) (m_pm t) (m_on t) (m_r1 t) (m_r2 t) (m_r3 t))) N2) H → va_S (k_A g) s.heap H locs → ∀ (ls : Array Slot), lv_has ls 4 [(0, .ref (ad 9 0)), (1, .int (nI (cn + 1))), (2, .int (nI i)), (3, .int (kO cur))] → W p l e rm_X5_marks s m args below meth c H locs 0 0 Q (F0 m 90 ls []) := by
                  intro n
                  induction n with
                  | zero =>
                    intro cur N2 hfu2 hck hN2
                    exact absurd hfu2 (by omega)
                  | succ n ih_90 =>
                    intro cur N2 hfu2 hck hN2 H locs hW hS ls hl
                    rcases cur with _ | k
                    · have hl : lv_has ls 4 [(0, .ref (ad 9 0)), (1, .int (nI (cn + 1))), (2, .int (nI i)), (3, .int (-1))] := hl
                      refine lv_iload_n hx hb dX5_marks_90 rfl (lv_at hl 3 rfl) ?_
                      refine lv_iconst (v := (-1)) hx hb dX5_marks_91 (by decide) ?_
                      refine lv_icmp_eq (tgt := 121) hx hb dX5_marks_92 (by decide) (fun h_92 => ?_) (fun h_92 => absurd rfl h_92)
                      refine lv_iinc (v := nI (i + 1)) (lv' := [(2, .int (nI (i + 1))), (0, .ref (ad 9 0)), (1, .int (nI (cn + 1))), (3, .int (-1))]) hx hb dX5_marks_121 hl (k := 2) rfl (nI_add _ _) (by decide) rfl (fun ls hl => ?_)
                      refine lv_goto (tgt := 63) hx hb dX5_marks_124 (by decide) ?_
                      exact ih_63 (i + 1) (cn + 1) N2 (by omega) (by omega) (by rw [k_cb_y h_78, hcn]) (fun j => by rw [k_out hN2 j, k_nd_y rfl h_78, ← Bool.or_assoc, ← hN1 j]) _ _ hW hS _ (lv_sub hl [1, 2, 0] rfl)
                    · have hl : lv_has ls 4 [(0, .ref (ad 9 0)), (1, .int (nI (cn + 1))), (2, .int (nI i)), (3, .int (nI k))] := hl
                      have hkm : k < m_md t := (hck _ rfl).2
                      have hdk : ∀ b, m_b t k = some b → b < k := fun b hb => hmb _ _ hkm hb
                      rw [k_clo_some hdk] at hN2
                      refine lv_iload_n hx hb dX5_marks_90 rfl (lv_at hl 3 rfl) ?_
                      refine lv_iconst (v := (-1)) hx hb dX5_marks_91 (by decide) ?_
                      refine lv_icmp_eq (tgt := 121) hx hb dX5_marks_92 (by decide) (fun h_92 => absurd h_92 (k_nm1 (by omega))) (fun h_92 => ?_)
                      refine lv_aload_n hx hb dX5_marks_95 rfl (lv_at hl 0 rfl) ?_
                      refine k_get (own := RX5) (C := RX5) (T := TX5) (N := 21) hx hb hts hinX5 hown hK hW (kc_9 g ad (set_m_nd (set_m_pm t (k_PmM (m_md t) (m_th t) (m_pm t) (m_on t) (m_r1 t) (m_r2 t) (m_r3 t))) N2)) rfl 16 (by decide) (hts (.fieldLink RX5 51 "DrillVaultModel" "promised" "[Z") (by decide +kernel)) rfl (v := .ref (ad 20 0)) rfl dX5_marks_96 ?_
                      refine lv_iload_n hx hb dX5_marks_99 rfl (lv_at hl 2 rfl) ?_
                      refine k_zald hx hb hK hW (kc_20 g ad (set_m_nd (set_m_pm t (k_PmM (m_md t) (m_th t) (m_pm t) (m_on t) (m_r1 t) (m_r2 t) (m_r3 t))) N2)) i rfl (by omega) (by decide) dX5_marks_100 ?_
                      refine k_tov (y := .int (kb ((k_PmM (m_md t) (m_th t) (m_pm t) (m_on t) (m_r1 t) (m_r2 t) (m_r3 t)) i))) rfl ?_
                      refine k_ifz_eq (tgt := 121) hx hb dX5_marks_101 (by decide) (fun h_101 => absurd h_101 (fun q => absurd (h_78.symm.trans q) (by decide))) (fun h_101 => ?_)
                      refine lv_aload_n hx hb dX5_marks_104 rfl (lv_at hl 0 rfl) ?_
                      refine k_get (own := RX5) (C := RX5) (T := TX5) (N := 21) hx hb hts hinX5 hown hK hW (kc_9 g ad (set_m_nd (set_m_pm t (k_PmM (m_md t) (m_th t) (m_pm t) (m_on t) (m_r1 t) (m_r2 t) (m_r3 t))) N2)) rfl 17 (by decide) (hts (.fieldLink RX5 54 "DrillVaultModel" "needed" "[Z") (by decide +kernel)) rfl (v := .ref (ad 21 0)) rfl dX5_marks_105 ?_
                      refine lv_iload_n hx hb dX5_marks_108 rfl (lv_at hl 3 rfl) ?_
                      refine lv_iconst (v := nI 1) hx hb dX5_marks_109 (by decide) ?_
                      refine k_zast hx hb hK hW hS (kc_21 g ad (set_m_nd (set_m_pm t (k_PmM (m_md t) (m_th t) (m_pm t) (m_on t) (m_r1 t) (m_r2 t) (m_r3 t))) N2)) rfl k rfl (by omega) (by decide) dX5_marks_110 (fun H locs hW hS => ?_)
                      have hW : k_H g ad (set_m_nd (set_m_pm t (k_PmM (m_md t) (m_th t) (m_pm t) (m_on t) (m_r1 t) (m_r2 t) (m_r3 t))) (va_up N2 k true)) H := kt_m_nd (t := set_m_nd (set_m_pm t (k_PmM (m_md t) (m_th t) (m_pm t) (m_on t) (m_r1 t) (m_r2 t) (m_r3 t))) N2) k true rfl hW
                      sorry
                exact hloop_90 (i + 2) (some i) N1 (by omega) (fun q hq => by cases hq; exact ⟨by omega, h_68⟩) (fun j => rfl) _ _ hW hS _ (lv_sub hl [2, 1, 3, 0] rfl)
        exact hloop_63 (m_md t + 1) 0 0 ((fun j => if decide (j < m_md t) = true then false else m_nd t j)) (by omega) (by omega) rfl (fun j => (Bool.or_false _).symm) _ _ hW hS _ (lv_sub hl [1, 2, 0] rfl)
      · refine lv_aload_n hx hb dX5_marks_12 rfl (lv_at hl 0 rfl) ?_
        refine k_get (own := RX5) (C := RX5) (T := TX5) (N := 21) hx hb hts hinX5 hown hK hW (kc_9 g ad (set_m_nd (set_m_pm t P1) N1)) rfl 16 (by decide) (hts (.fieldLink RX5 51 "DrillVaultModel" "promised" "[Z") (by decide +kernel)) rfl (v := .ref (ad 20 0)) rfl dX5_marks_13 ?_
        refine lv_iload_n hx hb dX5_marks_16 rfl (lv_at hl 2 rfl) ?_
        refine lv_iconst (v := nI 0) hx hb dX5_marks_17 (by decide) ?_
        refine k_zast hx hb hK hW hS (kc_20 g ad (set_m_nd (set_m_pm t P1) N1)) rfl i rfl (by omega) (by decide) dX5_marks_18 (fun H locs hW hS => ?_)
        have hW : k_H g ad (set_m_pm (set_m_nd t N1) (va_up P1 i false)) H := kt_m_pm (t := set_m_nd (set_m_pm t P1) N1) i false rfl hW
        refine lv_aload_n hx hb dX5_marks_19 rfl (lv_at hl 0 rfl) ?_
        refine k_get (own := RX5) (C := RX5) (T := TX5) (N := 21) hx hb hts hinX5 hown hK hW (kc_9 g ad (set_m_pm (set_m_nd t N1) (va_up P1 i false))) rfl 17 (by decide) (hts (.fieldLink RX5 54 "DrillVaultModel" "needed" "[Z") (by decide +kernel)) rfl (v := .ref (ad 21 0)) rfl dX5_marks_20 ?_
        refine lv_iload_n hx hb dX5_marks_23 rfl (lv_at hl 2 rfl) ?_
        refine lv_iconst (v := nI 0) hx hb dX5_marks_24 (by decide) ?_
        refine k_zast hx hb hK hW hS (kc_21 g ad (set_m_pm (set_m_nd t N1) (va_up P1 i false))) rfl i rfl (by omega) (by decide) dX5_marks_25 (fun H locs hW hS => ?_)
        have hW : k_H g ad (set_m_nd (set_m_pm t (va_up P1 i false)) (va_up N1 i false)) H := kt_m_nd (t := set_m_pm (set_m_nd t N1) (va_up P1 i false)) i false rfl hW
        refine lv_iinc (v := nI (i + 1)) (lv' := [(2, .int (nI (i + 1))), (0, .ref (ad 9 0)), (1, .int (nI 0))]) hx hb dX5_marks_26 hl (k := 2) rfl (nI_add _ _) (by decide) rfl (fun ls hl => ?_)
        refine lv_goto (tgt := 4) hx hb dX5_marks_29 (by decide) ?_
        exact ih (i + 1) (va_up P1 i false) (va_up N1 i false) (by omega) (by omega) (k_rs hP1 (k_lm h_9) rfl) (k_rs hN1 (k_lm h_9) rfl) _ _ hW hS _ (lv_sub hl [1, 2, 0] rfl)
  exact hloop_4 (m_md t + 1) 0 (m_pm t) (m_nd t) (by omega) (by omega) k_rs_0 k_rs_0 _ _ hW hS _ (lv_sub hl [2, 1, 0] rfl)
set_option maxRecDepth 100000 in
set_option maxHeartbeats 4000000 in
theorem c_X5_marks_try7 (l : Launch) (hlt : l.stackTraces = false) (g : k_g) (ad : k_AD) (t : k_T) (hm60 : m_md t ≤ 60) (hmb : ∀ k b, k < m_md t → m_b t k = some b → b < k) (hmo : ∀ j, j < m_md t → m_on t j ≤ 360) (hr1 : m_r1 t ≤ 30) (hr2 : m_r2 t ≤ 30) (hr3 : m_r3 t ≤ 30) : Met l yX5_marks wsX5_marks rm_X5_marks (va_Pc [.ref (ad 9 0)] (k_I g (k_ct g ad t) ad)) (va_Qi (fun r u => r = nI (k_cb (k_PmM (m_md t) (m_th t) (m_pm t) (m_on t) (m_r1 t) (m_r2 t) (m_r3 t)) (m_md t)) ∧ u = set_m_nd (set_m_pm t (k_PmM (m_md t) (m_th t) (m_pm t) (m_on t) (m_r1 t) (m_r2 t) (m_r3 t))) (k_NmM (m_md t) (m_nd t) (k_PmM (m_md t) (m_th t) (m_pm t) (m_on t) (m_r1 t) (m_r2 t) (m_r3 t)) (m_b t))) (fun u U => k_H g ad u U.heap) (k_A g)) 0 0 (k_A g) := by
  refine k_met (cc := cX5_marks) (maxL := 4) (ret := (some .int)) (by decide) rfl (Nat.le_of_ble_eq_true rfl) (fun p e s m args below meth c Q ls hQ hx hb hr hml hts hown hlk hin hK hZ hN hW hS hl => ?_)
  have hown : s.vm.findClass RX5 = some m.cls := hown
  have hW : k_H g ad t s.heap := hW
  have hl : lv_has ls 4 [(0, .ref (ad 9 0))] := hl
  have hinX5 : ∀ w ∈ wsX50, w ∈ wsX5_marks := by decide +kernel
  refine lv_iconst (v := nI 0) hx hb dX5_marks_0 (by decide) ?_
  refine lv_istore_n (lv' := [(1, .int (nI 0)), (0, .ref (ad 9 0))]) hx hb dX5_marks_1 rfl hl (by decide) rfl (fun ls hl => ?_)
  refine lv_iconst (v := nI 0) hx hb dX5_marks_2 (by decide) ?_
  refine lv_istore_n (lv' := [(2, .int (nI 0)), (1, .int (nI 0)), (0, .ref (ad 9 0))]) hx hb dX5_marks_3 rfl hl (by decide) rfl (fun ls hl => ?_)
  have hloop_4 : ∀ (n : Nat) (i : Nat) (P1 : Nat → Bool) (N1 : Nat → Bool), (m_md t < i + n) → (i ≤ m_md t) → (∀ j, P1 j = if (decide (j < i) && (fun j => decide (j < m_md t)) j) = true then (fun _ => false) j else m_pm t j) → (∀ j, N1 j = if (decide (j < i) && (fun j => decide (j < m_md t)) j) = true then (fun _ => false) j else m_nd t j) → ∀ (H : Heap) (locs : List Loc), k_H g ad (set_m_nd (set_m_pm t P1) N1) H → va_S (k_A g) s.heap H locs → ∀ (ls : Array Slot), lv_has ls 4 [(0, .ref (ad 9 0)), (1, .int (nI 0)), (2, .int (nI i))] → W p l e rm_X5_marks s m args below meth c H locs 0 0 Q (F0 m 4 ls []) := by
    intro n
    induction n with
    | zero =>
      intro i P1 N1 hfu hi hP1 hN1
      exact absurd hfu (by omega)
    | succ n ih =>
      intro i P1 N1 hfu hi hP1 hN1 H locs hW hS ls hl
      refine lv_iload_n hx hb dX5_marks_4 rfl (lv_at hl 2 rfl) ?_
      refine lv_aload_n hx hb dX5_marks_5 rfl (lv_at hl 0 rfl) ?_
      refine k_get (own := RX5) (C := RX5) (T := TX5) (N := 21) hx hb hts hinX5 hown hK hW (kc_9 g ad (set_m_nd (set_m_pm t P1) N1)) rfl 12 (by decide) (hts (.fieldLink RX5 66 "DrillVaultModel" "made" "I") (by decide +kernel)) rfl (v := .int (nI (m_md t))) rfl dX5_marks_6 ?_
      refine k_icmp_ge (tgt := 32) hx hb (a := i) (b := m_md t) (by omega) (by omega) dX5_marks_9 (by decide) (fun h_9 => ?_) (fun h_9 => ?_)
      · have hPe := k_rs_e hP1 k_lmw (show m_md t ≤ i by omega); have hNe := k_rs_e hN1 k_lmw (show m_md t ≤ i by omega)
        subst hPe; subst hNe
        have hW : k_H g ad (set_m_nd (set_m_pm t (fun j => if decide (j < m_md t) = true then false else m_pm t j)) (fun j => if decide (j < m_md t) = true then false else m_nd t j)) H := hW
        refine lv_aload_n hx hb dX5_marks_32 rfl (lv_at hl 0 rfl) ?_
        refine lv_iconst (v := nI 1) hx hb dX5_marks_33 (by decide) ?_
        refine lv_aload_n hx hb dX5_marks_34 rfl (lv_at hl 0 rfl) ?_
        refine k_get (own := RX5) (C := RX5) (T := TX5) (N := 21) hx hb hts hinX5 hown hK hW (kc_9 g ad (set_m_nd (set_m_pm t (fun j => if decide (j < m_md t) = true then false else m_pm t j)) (fun j => if decide (j < m_md t) = true then false else m_nd t j))) rfl 13 (by decide) (hts (.fieldLink RX5 41 "DrillVaultModel" "dayRule" "I") (by decide +kernel)) rfl (v := .int (nI (m_r1 t))) rfl dX5_marks_35 ?_
        refine k_cv (va_runV (As := [.int (nI 1), .int (nI (m_r1 t))]) (rest := []) ⟨hx, hb, hml, hown, hts⟩ (c_X5_promises_0 l hlt g ad (set_m_nd (set_m_pm t (fun j => if decide (j < m_md t) = true then false else m_pm t j)) (fun j => if decide (j < m_md t) = true then false else m_nd t j)) (m_r1 t) hr1 hm60 hmo) (cwV 2 hts gX5_marks_X5_promises rfl rfl rfl (by decide +kernel) ⟨(Nat.le_of_ble_eq_true rfl), (Nat.le_of_ble_eq_true rfl)⟩) ⟨k_blind, k_recv hK hW (kc_9 g ad (set_m_nd (set_m_pm t (fun j => if decide (j < m_md t) = true then false else m_pm t j)) (fun j => if decide (j < m_md t) = true then false else m_nd t j))) rfl, fun U hU hw => ⟨rfl, k_I.of hK hZ hN hS hW hU hw⟩⟩ rfl rfl hl.1 rfl (lv_room (Nat.le_of_ble_eq_true rfl)) dX5_marks_38 ⟨(Nat.le_of_ble_eq_true rfl), (Nat.le_of_ble_eq_true rfl)⟩) hS (fun u H locs hpo hW hS => ?_)
        have hu9 := hpo.symm; subst hu9
        have hW : k_H g ad (set_m_pm (set_m_nd t (fun j => if decide (j < m_md t) = true then false else m_nd t j)) (fun j9 => (fun j => if decide (j < m_md t) = true then false else m_pm t j) j9 || k_sel (m_th t) (fun j => k_pd 0 (m_on t j)) (m_md t) (m_r1 t) (-1) j9)) H := hW
        refine lv_aload_n hx hb dX5_marks_41 rfl (lv_at hl 0 rfl) ?_
        refine lv_bipush (v := nI 7) hx hb dX5_marks_42 (by decide) ?_
        refine lv_aload_n hx hb dX5_marks_44 rfl (lv_at hl 0 rfl) ?_
        refine k_get (own := RX5) (C := RX5) (T := TX5) (N := 21) hx hb hts hinX5 hown hK hW (kc_9 g ad (set_m_pm (set_m_nd t (fun j => if decide (j < m_md t) = true then false else m_nd t j)) (fun j9 => (fun j => if decide (j < m_md t) = true then false else m_pm t j) j9 || k_sel (m_th t) (fun j => k_pd 0 (m_on t j)) (m_md t) (m_r1 t) (-1) j9))) rfl 14 (by decide) (hts (.fieldLink RX5 45 "DrillVaultModel" "weekRule" "I") (by decide +kernel)) rfl (v := .int (nI (m_r2 t))) rfl dX5_marks_45 ?_
        refine k_cv (va_runV (As := [.int (nI 7), .int (nI (m_r2 t))]) (rest := []) ⟨hx, hb, hml, hown, hts⟩ (c_X5_promises_1 l hlt g ad (set_m_pm (set_m_nd t (fun j => if decide (j < m_md t) = true then false else m_nd t j)) (fun j9 => (fun j => if decide (j < m_md t) = true then false else m_pm t j) j9 || k_sel (m_th t) (fun j => k_pd 0 (m_on t j)) (m_md t) (m_r1 t) (-1) j9)) (m_r2 t) hr2 hm60 hmo) (cwV 2 hts gX5_marks_X5_promises rfl rfl rfl (by decide +kernel) ⟨(Nat.le_of_ble_eq_true rfl), (Nat.le_of_ble_eq_true rfl)⟩) ⟨k_blind, k_recv hK hW (kc_9 g ad (set_m_pm (set_m_nd t (fun j => if decide (j < m_md t) = true then false else m_nd t j)) (fun j9 => (fun j => if decide (j < m_md t) = true then false else m_pm t j) j9 || k_sel (m_th t) (fun j => k_pd 0 (m_on t j)) (m_md t) (m_r1 t) (-1) j9))) rfl, fun U hU hw => ⟨rfl, k_I.of hK hZ hN hS hW hU hw⟩⟩ rfl rfl hl.1 rfl (lv_room (Nat.le_of_ble_eq_true rfl)) dX5_marks_48 ⟨(Nat.le_of_ble_eq_true rfl), (Nat.le_of_ble_eq_true rfl)⟩) hS (fun u H locs hpo hW hS => ?_)
        have hu9 := hpo.symm; subst hu9
        have hW : k_H g ad (set_m_pm (set_m_nd t (fun j => if decide (j < m_md t) = true then false else m_nd t j)) (fun j9 => (fun j9 => (fun j => if decide (j < m_md t) = true then false else m_pm t j) j9 || k_sel (m_th t) (fun j => k_pd 0 (m_on t j)) (m_md t) (m_r1 t) (-1) j9) j9 || k_sel (m_th t) (fun j => k_pd 1 (m_on t j)) (m_md t) (m_r2 t) (-1) j9)) H := hW
        refine lv_aload_n hx hb dX5_marks_51 rfl (lv_at hl 0 rfl) ?_
        refine lv_bipush (v := nI 28) hx hb dX5_marks_52 (by decide) ?_
        refine lv_aload_n hx hb dX5_marks_54 rfl (lv_at hl 0 rfl) ?_
        refine k_get (own := RX5) (C := RX5) (T := TX5) (N := 21) hx hb hts hinX5 hown hK hW (kc_9 g ad (set_m_pm (set_m_nd t (fun j => if decide (j < m_md t) = true then false else m_nd t j)) (fun j9 => (fun j9 => (fun j => if decide (j < m_md t) = true then false else m_pm t j) j9 || k_sel (m_th t) (fun j => k_pd 0 (m_on t j)) (m_md t) (m_r1 t) (-1) j9) j9 || k_sel (m_th t) (fun j => k_pd 1 (m_on t j)) (m_md t) (m_r2 t) (-1) j9))) rfl 15 (by decide) (hts (.fieldLink RX5 48 "DrillVaultModel" "monthRule" "I") (by decide +kernel)) rfl (v := .int (nI (m_r3 t))) rfl dX5_marks_55 ?_
        refine k_cv (va_runV (As := [.int (nI 28), .int (nI (m_r3 t))]) (rest := []) ⟨hx, hb, hml, hown, hts⟩ (c_X5_promises_2 l hlt g ad (set_m_pm (set_m_nd t (fun j => if decide (j < m_md t) = true then false else m_nd t j)) (fun j9 => (fun j9 => (fun j => if decide (j < m_md t) = true then false else m_pm t j) j9 || k_sel (m_th t) (fun j => k_pd 0 (m_on t j)) (m_md t) (m_r1 t) (-1) j9) j9 || k_sel (m_th t) (fun j => k_pd 1 (m_on t j)) (m_md t) (m_r2 t) (-1) j9)) (m_r3 t) hr3 hm60 hmo) (cwV 2 hts gX5_marks_X5_promises rfl rfl rfl (by decide +kernel) ⟨(Nat.le_of_ble_eq_true rfl), (Nat.le_of_ble_eq_true rfl)⟩) ⟨k_blind, k_recv hK hW (kc_9 g ad (set_m_pm (set_m_nd t (fun j => if decide (j < m_md t) = true then false else m_nd t j)) (fun j9 => (fun j9 => (fun j => if decide (j < m_md t) = true then false else m_pm t j) j9 || k_sel (m_th t) (fun j => k_pd 0 (m_on t j)) (m_md t) (m_r1 t) (-1) j9) j9 || k_sel (m_th t) (fun j => k_pd 1 (m_on t j)) (m_md t) (m_r2 t) (-1) j9))) rfl, fun U hU hw => ⟨rfl, k_I.of hK hZ hN hS hW hU hw⟩⟩ rfl rfl hl.1 rfl (lv_room (Nat.le_of_ble_eq_true rfl)) dX5_marks_58 ⟨(Nat.le_of_ble_eq_true rfl), (Nat.le_of_ble_eq_true rfl)⟩) hS (fun u H locs hpo hW hS => ?_)
        have hu9 := hpo.symm; subst hu9
        have hW : k_H g ad (set_m_pm (set_m_nd t (fun j => if decide (j < m_md t) = true then false else m_nd t j)) (fun j9 => (fun j9 => (fun j9 => (fun j => if decide (j < m_md t) = true then false else m_pm t j) j9 || k_sel (m_th t) (fun j => k_pd 0 (m_on t j)) (m_md t) (m_r1 t) (-1) j9) j9 || k_sel (m_th t) (fun j => k_pd 1 (m_on t j)) (m_md t) (m_r2 t) (-1) j9) j9 || k_sel (m_th t) (fun j => k_pd 2 (m_on t j)) (m_md t) (m_r3 t) (-1) j9)) H := hW
        have hW : k_H g ad (set_m_nd (set_m_pm t (k_PmM (m_md t) (m_th t) (m_pm t) (m_on t) (m_r1 t) (m_r2 t) (m_r3 t))) (fun j => if decide (j < m_md t) = true then false else m_nd t j)) H := by
          rw [show (k_PmM (m_md t) (m_th t) (m_pm t) (m_on t) (m_r1 t) (m_r2 t) (m_r3 t)) = (fun j9 => (fun j9 => (fun j9 => (fun j => if decide (j < m_md t) = true then false else m_pm t j) j9 || k_sel (m_th t) (fun j => k_pd 0 (m_on t j)) (m_md t) (m_r1 t) (-1) j9) j9 || k_sel (m_th t) (fun j => k_pd 1 (m_on t j)) (m_md t) (m_r2 t) (-1) j9) j9 || k_sel (m_th t) (fun j => k_pd 2 (m_on t j)) (m_md t) (m_r3 t) (-1) j9) from funext fun j => by simp only [k_PmM, k_P, Bool.or_assoc]]; exact hW
        refine lv_iconst (v := nI 0) hx hb dX5_marks_61 (by decide) ?_
        refine lv_istore_n (lv' := [(2, .int (nI 0)), (0, .ref (ad 9 0)), (1, .int (nI 0))]) hx hb dX5_marks_62 rfl hl (by decide) rfl (fun ls hl => ?_)
        have hloop_63 : ∀ (n : Nat) (i : Nat) (cn : Nat) (N1 : Nat → Bool), (m_md t < i + n) → (i ≤ m_md t) → (cn = k_cb (k_PmM (m_md t) (m_th t) (m_pm t) (m_on t) (m_r1 t) (m_r2 t) (m_r3 t)) i) → (∀ j, N1 j = ((fun j => if decide (j < m_md t) = true then false else m_nd t j) j || k_nd (fun _ => true) (k_PmM (m_md t) (m_th t) (m_pm t) (m_on t) (m_r1 t) (m_r2 t) (m_r3 t)) (m_b t) i j)) → ∀ (H : Heap) (locs : List Loc), k_H g ad (set_m_nd (set_m_pm t (k_PmM (m_md t) (m_th t) (m_pm t) (m_on t) (m_r1 t) (m_r2 t) (m_r3 t))) N1) H → va_S (k_A g) s.heap H locs → ∀ (ls : Array Slot), lv_has ls 4 [(0, .ref (ad 9 0)), (1, .int (nI cn)), (2, .int (nI i))] → W p l e rm_X5_marks s m args below meth c H locs 0 0 Q (F0 m 63 ls []) := by
          intro n
          induction n with
          | zero =>
            intro i cn N1 hfu hi hcn hN1
            exact absurd hfu (by omega)
          | succ n ih_63 =>
            intro i cn N1 hfu hi hcn hN1 H locs hW hS ls hl
            refine lv_iload_n hx hb dX5_marks_63 rfl (lv_at hl 2 rfl) ?_
            refine lv_aload_n hx hb dX5_marks_64 rfl (lv_at hl 0 rfl) ?_
            refine k_get (own := RX5) (C := RX5) (T := TX5) (N := 21) hx hb hts hinX5 hown hK hW (kc_9 g ad (set_m_nd (set_m_pm t (k_PmM (m_md t) (m_th t) (m_pm t) (m_on t) (m_r1 t) (m_r2 t) (m_r3 t))) N1)) rfl 12 (by decide) (hts (.fieldLink RX5 66 "DrillVaultModel" "made" "I") (by decide +kernel)) rfl (v := .int (nI (m_md t))) rfl dX5_marks_65 ?_
            refine k_icmp_ge (tgt := 127) hx hb (a := i) (b := m_md t) (by omega) (by omega) dX5_marks_68 (by decide) (fun h_68 => ?_) (fun h_68 => ?_)
            · sorry
            · refine lv_iload_n hx hb dX5_marks_71 rfl (lv_at hl 1 rfl) ?_
              refine lv_aload_n hx hb dX5_marks_72 rfl (lv_at hl 0 rfl) ?_
              refine k_get (own := RX5) (C := RX5) (T := TX5) (N := 21) hx hb hts hinX5 hown hK hW (kc_9 g ad (set_m_nd (set_m_pm t (k_PmM (m_md t) (m_th t) (m_pm t) (m_on t) (m_r1 t) (m_r2 t) (m_r3 t))) N1)) rfl 16 (by decide) (hts (.fieldLink RX5 51 "DrillVaultModel" "promised" "[Z") (by decide +kernel)) rfl (v := .ref (ad 20 0)) rfl dX5_marks_73 ?_
              refine lv_iload_n hx hb dX5_marks_76 rfl (lv_at hl 2 rfl) ?_
              refine k_zald hx hb hK hW (kc_20 g ad (set_m_nd (set_m_pm t (k_PmM (m_md t) (m_th t) (m_pm t) (m_on t) (m_r1 t) (m_r2 t) (m_r3 t))) N1)) i rfl (by omega) (by decide) dX5_marks_77 ?_
              refine k_tov (y := .int (kb ((k_PmM (m_md t) (m_th t) (m_pm t) (m_on t) (m_r1 t) (m_r2 t) (m_r3 t)) i))) rfl ?_
              refine k_ifz_eq (tgt := 85) hx hb dX5_marks_78 (by decide) (fun h_78 => ?_) (fun h_78 => ?_)
              · refine lv_iconst (v := nI 0) hx hb dX5_marks_85 (by decide) ?_
                refine k_iadd hx hb dX5_marks_86 ?_
                refine lv_istore_n (lv' := [(1, .int (nI (cn + 0))), (0, .ref (ad 9 0)), (2, .int (nI i))]) hx hb dX5_marks_87 rfl hl (by decide) rfl (fun ls hl => ?_)
                refine lv_iload_n hx hb dX5_marks_88 rfl (lv_at hl 2 rfl) ?_
                refine lv_istore_n (lv' := [(3, .int (nI i)), (1, .int (nI (cn + 0))), (0, .ref (ad 9 0)), (2, .int (nI i))]) hx hb dX5_marks_89 rfl hl (by decide) rfl (fun ls hl => ?_)
                refine lv_iload_n hx hb dX5_marks_90 rfl (lv_at hl 0 rfl) ?_
                refine lv_iconst (v := (-1)) hx hb dX5_marks_91 (by decide) ?_
                refine lv_icmp_eq (tgt := 121) hx hb dX5_marks_92 (by decide) (fun h_92 => absurd h_92 (k_nm1 (by omega))) (fun h_92 => ?_)
                refine lv_aload_n hx hb dX5_marks_95 rfl (lv_at hl 2 rfl) ?_
                refine k_get (own := RX5) (C := RX5) (T := TX5) (N := 21) hx hb hts hinX5 hown hK hW (kc_9 g ad (set_m_nd (set_m_pm t (k_PmM (m_md t) (m_th t) (m_pm t) (m_on t) (m_r1 t) (m_r2 t) (m_r3 t))) N1)) rfl 16 (by decide) (hts (.fieldLink RX5 51 "DrillVaultModel" "promised" "[Z") (by decide +kernel)) rfl (v := .ref (ad 20 0)) rfl dX5_marks_96 ?_
                refine lv_iload_n hx hb dX5_marks_99 rfl (lv_at hl 3 rfl) ?_
                refine k_zald hx hb hK hW (kc_20 g ad (set_m_nd (set_m_pm t (k_PmM (m_md t) (m_th t) (m_pm t) (m_on t) (m_r1 t) (m_r2 t) (m_r3 t))) N1)) i rfl (by omega) (by decide) dX5_marks_100 ?_
                refine k_tov (y := .int (kb ((k_PmM (m_md t) (m_th t) (m_pm t) (m_on t) (m_r1 t) (m_r2 t) (m_r3 t)) i))) rfl ?_
                refine k_ifz_eq (tgt := 121) hx hb dX5_marks_101 (by decide) (fun h_101 => ?_) (fun h_101 => absurd h_101 (fun q => absurd (h_78.symm.trans q) (by decide)))
                refine lv_iinc (v := nI (i + 1)) (lv' := [(2, .int (nI (i + 1))), (3, .int (nI i)), (1, .int (nI (cn + 0))), (0, .ref (ad 9 0))]) hx hb dX5_marks_121 hl (k := 3) rfl (nI_add _ _) (by decide) rfl (fun ls hl => ?_)
                refine lv_goto (tgt := 63) hx hb dX5_marks_124 (by decide) ?_
                exact ih_63 (i + 1) (cn + 0) N1 (by omega) (by omega) (by rw [k_cb_n h_78, hcn, Nat.add_zero]) (fun j => by rw [hN1 j, k_nd_n (by rw [h_78]; rfl)]) _ _ hW hS _ (lv_sub hl [3, 2, 0] rfl)
              · refine lv_iconst (v := nI 1) hx hb dX5_marks_81 (by decide) ?_
                refine lv_goto (tgt := 86) hx hb dX5_marks_82 (by decide) ?_
                refine k_iadd hx hb dX5_marks_86 ?_
                refine lv_istore_n (lv' := [(1, .int (nI (cn + 1))), (0, .ref (ad 9 0)), (2, .int (nI i))]) hx hb dX5_marks_87 rfl hl (by decide) rfl (fun ls hl => ?_)
                refine lv_iload_n hx hb dX5_marks_88 rfl (lv_at hl 2 rfl) ?_
                refine lv_istore_n (lv' := [(3, .int (nI i)), (1, .int (nI (cn + 1))), (0, .ref (ad 9 0)), (2, .int (nI i))]) hx hb dX5_marks_89 rfl hl (by decide) rfl (fun ls hl => ?_)
                have hloop_90 : ∀ (n : Nat) (cur : Option Nat) (N2 : Nat → Bool), (0 < n) → (∀ q, cur = some q → q + 1 < n ∧ q < m_md t) → (∀ j, (fun j => N1 j || (k_cl (m_b t) i).contains j) j = (N2 j || (k_clo (m_b t) cur).contains j)) → ∀ (H : Heap) (locs : List Loc), k_H g ad (set_m_nd (set_m_pm t (k_PmM (m_md t) (m_th t) (m_pm t) (m_on t) (m_r1 t) (m_r2 t) (m_r3 t))) N2) H → va_S (k_A g) s.heap H locs → ∀ (ls : Array Slot), lv_has ls 4 [(0, .ref (ad 9 0)), (1, .int (nI (cn + 1))), (2, .int (nI i)), (3, .int (kO cur))] → W p l e rm_X5_marks s m args below meth c H locs 0 0 Q (F0 m 90 ls []) := by
                  intro n
                  induction n with
                  | zero =>
                    intro cur N2 hfu2 hck hN2
                    exact absurd hfu2 (by omega)
                  | succ n ih_90 =>
                    intro cur N2 hfu2 hck hN2 H locs hW hS ls hl
                    rcases cur with _ | k
                    · have hl : lv_has ls 4 [(0, .ref (ad 9 0)), (1, .int (nI (cn + 1))), (2, .int (nI i)), (3, .int (-1))] := hl
                      refine lv_iload_n hx hb dX5_marks_90 rfl (lv_at hl 3 rfl) ?_
                      refine lv_iconst (v := (-1)) hx hb dX5_marks_91 (by decide) ?_
                      refine lv_icmp_eq (tgt := 121) hx hb dX5_marks_92 (by decide) (fun h_92 => ?_) (fun h_92 => absurd rfl h_92)
                      refine lv_iinc (v := nI (i + 1)) (lv' := [(2, .int (nI (i + 1))), (0, .ref (ad 9 0)), (1, .int (nI (cn + 1))), (3, .int (-1))]) hx hb dX5_marks_121 hl (k := 2) rfl (nI_add _ _) (by decide) rfl (fun ls hl => ?_)
                      refine lv_goto (tgt := 63) hx hb dX5_marks_124 (by decide) ?_
                      exact ih_63 (i + 1) (cn + 1) N2 (by omega) (by omega) (by rw [k_cb_y h_78, hcn]) (fun j => by rw [k_out hN2 j, k_nd_y rfl h_78, ← Bool.or_assoc, ← hN1 j]) _ _ hW hS _ (lv_sub hl [1, 2, 0] rfl)
                    · have hl : lv_has ls 4 [(0, .ref (ad 9 0)), (1, .int (nI (cn + 1))), (2, .int (nI i)), (3, .int (nI k))] := hl
                      have hkm : k < m_md t := (hck _ rfl).2
                      have hdk : ∀ b, m_b t k = some b → b < k := fun b hb => hmb _ _ hkm hb
                      rw [k_clo_some hdk] at hN2
                      refine lv_iload_n hx hb dX5_marks_90 rfl (lv_at hl 3 rfl) ?_
                      refine lv_iconst (v := (-1)) hx hb dX5_marks_91 (by decide) ?_
                      refine lv_icmp_eq (tgt := 121) hx hb dX5_marks_92 (by decide) (fun h_92 => absurd h_92 (k_nm1 (by omega))) (fun h_92 => ?_)
                      refine lv_aload_n hx hb dX5_marks_95 rfl (lv_at hl 0 rfl) ?_
                      refine k_get (own := RX5) (C := RX5) (T := TX5) (N := 21) hx hb hts hinX5 hown hK hW (kc_9 g ad (set_m_nd (set_m_pm t (k_PmM (m_md t) (m_th t) (m_pm t) (m_on t) (m_r1 t) (m_r2 t) (m_r3 t))) N2)) rfl 16 (by decide) (hts (.fieldLink RX5 51 "DrillVaultModel" "promised" "[Z") (by decide +kernel)) rfl (v := .ref (ad 20 0)) rfl dX5_marks_96 ?_
                      refine lv_iload_n hx hb dX5_marks_99 rfl (lv_at hl 2 rfl) ?_
                      refine k_zald hx hb hK hW (kc_20 g ad (set_m_nd (set_m_pm t (k_PmM (m_md t) (m_th t) (m_pm t) (m_on t) (m_r1 t) (m_r2 t) (m_r3 t))) N2)) i rfl (by omega) (by decide) dX5_marks_100 ?_
                      refine k_tov (y := .int (kb ((k_PmM (m_md t) (m_th t) (m_pm t) (m_on t) (m_r1 t) (m_r2 t) (m_r3 t)) i))) rfl ?_
                      refine k_ifz_eq (tgt := 121) hx hb dX5_marks_101 (by decide) (fun h_101 => absurd h_101 (fun q => absurd (h_78.symm.trans q) (by decide))) (fun h_101 => ?_)
                      refine lv_aload_n hx hb dX5_marks_104 rfl (lv_at hl 0 rfl) ?_
                      refine k_get (own := RX5) (C := RX5) (T := TX5) (N := 21) hx hb hts hinX5 hown hK hW (kc_9 g ad (set_m_nd (set_m_pm t (k_PmM (m_md t) (m_th t) (m_pm t) (m_on t) (m_r1 t) (m_r2 t) (m_r3 t))) N2)) rfl 17 (by decide) (hts (.fieldLink RX5 54 "DrillVaultModel" "needed" "[Z") (by decide +kernel)) rfl (v := .ref (ad 21 0)) rfl dX5_marks_105 ?_
                      refine lv_iload_n hx hb dX5_marks_108 rfl (lv_at hl 3 rfl) ?_
                      refine lv_iconst (v := nI 1) hx hb dX5_marks_109 (by decide) ?_
                      refine k_zast hx hb hK hW hS (kc_21 g ad (set_m_nd (set_m_pm t (k_PmM (m_md t) (m_th t) (m_pm t) (m_on t) (m_r1 t) (m_r2 t) (m_r3 t))) N2)) rfl k rfl (by omega) (by decide) dX5_marks_110 (fun H locs hW hS => ?_)
                      have hW : k_H g ad (set_m_nd (set_m_pm t (k_PmM (m_md t) (m_th t) (m_pm t) (m_on t) (m_r1 t) (m_r2 t) (m_r3 t))) (va_up N2 k true)) H := kt_m_nd (t := set_m_nd (set_m_pm t (k_PmM (m_md t) (m_th t) (m_pm t) (m_on t) (m_r1 t) (m_r2 t) (m_r3 t))) N2) k true rfl hW
                      refine lv_aload_n hx hb dX5_marks_111 rfl (lv_at hl 0 rfl) ?_
                      refine k_get (own := RX5) (C := RX5) (T := TX5) (N := 21) hx hb hts hinX5 hown hK hW (kc_9 g ad (set_m_nd (set_m_pm t (k_PmM (m_md t) (m_th t) (m_pm t) (m_on t) (m_r1 t) (m_r2 t) (m_r3 t))) (va_up N2 k true))) rfl 5 (by decide) (hts (.fieldLink RX5 19 "DrillVaultModel" "bases" "[I") (by decide +kernel)) rfl (v := .ref (ad 13 0)) rfl dX5_marks_112 ?_
                      refine lv_iload_n hx hb dX5_marks_115 rfl (lv_at hl 3 rfl) ?_
                      refine k_iald hx hb hK hW (kc_13 g ad (set_m_nd (set_m_pm t (k_PmM (m_md t) (m_th t) (m_pm t) (m_on t) (m_r1 t) (m_r2 t) (m_r3 t))) (va_up N2 k true))) k rfl (by omega) (by decide) dX5_marks_116 ?_
                      refine lv_istore_n (lv' := [(3, .int (kO (m_b t k))), (0, .ref (ad 9 0)), (1, .int (nI (cn + 1))), (2, .int (nI i))]) hx hb dX5_marks_117 rfl hl (by decide) rfl (fun ls hl => ?_)
                      refine lv_goto (tgt := 90) hx hb dX5_marks_118 (by decide) ?_
                      exact ih_90 (m_b t k) (va_up N2 k true) (by have := (hck _ rfl).1; omega) (fun q hq => by have h1 := (hck _ rfl).1; have h2 := hmb _ _ hkm hq; exact ⟨by omega, by omega⟩) (k_nd_step hN2) _ _ hW hS _ (lv_sub hl [1, 2, 3, 0] rfl)
                exact hloop_90 (i + 2) (some i) N1 (by omega) (fun q hq => by cases hq; exact ⟨by omega, h_68⟩) (fun j => rfl) _ _ hW hS _ (lv_sub hl [2, 1, 3, 0] rfl)
        exact hloop_63 (m_md t + 1) 0 0 ((fun j => if decide (j < m_md t) = true then false else m_nd t j)) (by omega) (by omega) rfl (fun j => (Bool.or_false _).symm) _ _ hW hS _ (lv_sub hl [1, 2, 0] rfl)
      · refine lv_aload_n hx hb dX5_marks_12 rfl (lv_at hl 0 rfl) ?_
        refine k_get (own := RX5) (C := RX5) (T := TX5) (N := 21) hx hb hts hinX5 hown hK hW (kc_9 g ad (set_m_nd (set_m_pm t P1) N1)) rfl 16 (by decide) (hts (.fieldLink RX5 51 "DrillVaultModel" "promised" "[Z") (by decide +kernel)) rfl (v := .ref (ad 20 0)) rfl dX5_marks_13 ?_
        refine lv_iload_n hx hb dX5_marks_16 rfl (lv_at hl 2 rfl) ?_
        refine lv_iconst (v := nI 0) hx hb dX5_marks_17 (by decide) ?_
        refine k_zast hx hb hK hW hS (kc_20 g ad (set_m_nd (set_m_pm t P1) N1)) rfl i rfl (by omega) (by decide) dX5_marks_18 (fun H locs hW hS => ?_)
        have hW : k_H g ad (set_m_pm (set_m_nd t N1) (va_up P1 i false)) H := kt_m_pm (t := set_m_nd (set_m_pm t P1) N1) i false rfl hW
        refine lv_aload_n hx hb dX5_marks_19 rfl (lv_at hl 0 rfl) ?_
        refine k_get (own := RX5) (C := RX5) (T := TX5) (N := 21) hx hb hts hinX5 hown hK hW (kc_9 g ad (set_m_pm (set_m_nd t N1) (va_up P1 i false))) rfl 17 (by decide) (hts (.fieldLink RX5 54 "DrillVaultModel" "needed" "[Z") (by decide +kernel)) rfl (v := .ref (ad 21 0)) rfl dX5_marks_20 ?_
        refine lv_iload_n hx hb dX5_marks_23 rfl (lv_at hl 2 rfl) ?_
        refine lv_iconst (v := nI 0) hx hb dX5_marks_24 (by decide) ?_
        refine k_zast hx hb hK hW hS (kc_21 g ad (set_m_pm (set_m_nd t N1) (va_up P1 i false))) rfl i rfl (by omega) (by decide) dX5_marks_25 (fun H locs hW hS => ?_)
        have hW : k_H g ad (set_m_nd (set_m_pm t (va_up P1 i false)) (va_up N1 i false)) H := kt_m_nd (t := set_m_pm (set_m_nd t N1) (va_up P1 i false)) i false rfl hW
        refine lv_iinc (v := nI (i + 1)) (lv' := [(2, .int (nI (i + 1))), (0, .ref (ad 9 0)), (1, .int (nI 0))]) hx hb dX5_marks_26 hl (k := 2) rfl (nI_add _ _) (by decide) rfl (fun ls hl => ?_)
        refine lv_goto (tgt := 4) hx hb dX5_marks_29 (by decide) ?_
        exact ih (i + 1) (va_up P1 i false) (va_up N1 i false) (by omega) (by omega) (k_rs hP1 (k_lm h_9) rfl) (k_rs hN1 (k_lm h_9) rfl) _ _ hW hS _ (lv_sub hl [1, 2, 0] rfl)
  exact hloop_4 (m_md t + 1) 0 (m_pm t) (m_nd t) (by omega) (by omega) k_rs_0 k_rs_0 _ _ hW hS _ (lv_sub hl [2, 1, 0] rfl)
