abbrev rm_X5_marks : Room := { frames := 1, cells := 0, slots := 0, locals := 25 }
set_option maxRecDepth 100000 in
set_option maxHeartbeats 4000000 in
theorem c_X5_marks (l : Launch) (hlt : l.stackTraces = false) (g : k_g) (ad : k_AD) (t : k_T) (hm60 : m_md t ≤ 60) (hmb : ∀ k b, k < m_md t → m_b t k = some b → b < k) (hmo : ∀ j, j < m_md t → m_on t j ≤ 360) (hr1 : m_r1 t ≤ 30) (hr2 : m_r2 t ≤ 30) (hr3 : m_r3 t ≤ 30) : Met l yX5_marks wsX5_marks rm_X5_marks (va_Pc [.ref (ad 9 0)] (k_I g (k_ct g ad t) ad)) (va_Qi (fun r u => r = nI (k_cb (k_PmM (m_md t) (m_th t) (m_pm t) (m_on t) (m_r1 t) (m_r2 t) (m_r3 t)) (m_md t)) ∧ u = set_m_nd (set_m_pm t (k_PmM (m_md t) (m_th t) (m_pm t) (m_on t) (m_r1 t) (m_r2 t) (m_r3 t))) (k_NmM (m_md t) (m_nd t) (k_PmM (m_md t) (m_th t) (m_pm t) (m_on t) (m_r1 t) (m_r2 t) (m_r3 t)) (m_b t))) (fun u U => k_H g ad u U.heap) (k_A g)) 0 0 (k_A g) := by
  refine k_met (cc := cX5_marks) (maxL := 4) (ret := (some .int)) (by decide) rfl (Nat.le_of_ble_eq_true rfl) (fun p e s m args below meth c Q ls hQ hx hb hr hml hts hown hlk hin hK hZ hN hW hS hl => ?_)
  have hown : s.vm.findClass RX5 = some m.cls := hown
  have hW : k_H g ad t s.heap := hW
  have hl : lv_has ls 4 [(0, .ref (ad 9 0))] := hl
  have hinX5 : ∀ w ∈ wsX50, w ∈ wsX5_marks := by decide +kernel
  refine lv_iconst (v := nI 0) hx hb dX5_marks_0 (by decide) ?_
  refine lv_istore_n (lv' := [(1, .int (nI 0)), (0, .ref (ad 9 0))]) hx hb dX5_marks_1 rfl hl (by decide) rfl (fun ls hl => ?_)
  refine lv_iconst (v := nI 0) hx hb dX5_marks_2 (by decide) ?_
  refine lv_istore_n (lv' := [(2, .int (nI 0)), (1, .int (nI 0)), (0, .ref (ad 9 0))]) hx hb dX5_marks_3 rfl hl (by decide) rfl (fun ls hl => ?_)
  have hloop_4 : ∀ (n : Nat) (i : Nat) (P1 : Nat → Bool) (N1 : Nat → Bool), (m_md t < i + n) → (i ≤ m_md t) → (∀ j, P1 j = if (decide (j < i) && (fun j => decide (j < m_md t)) j) = true then (fun _ => false) j else m_pm t j) → (∀ j, N1 j = if (decide (j < i) && (fun j => decide (j < m_md t)) j) = true then (fun _ => false) j else m_nd t j) → ∀ (H : Heap) (locs : List Loc), k_H g ad (set_m_nd (set_m_pm t P1) N1) H → va_S (k_A g) s.heap H locs → ∀ (ls : Array Slot), lv_has ls 4 [(0, .ref (ad 9 0)), (1, .int (nI 0)), (2, .int (nI i))] → W p l e rm_X5_marks s m args below meth c H locs 0 0 Q (F0 m 4 ls []) := by
    intro n
    induction n with
    | zero =>
      intro i P1 N1 hfu hi hP1 hN1
      exact absurd hfu (by omega)
    | succ n ih =>
      intro i P1 N1 hfu hi hP1 hN1 H locs hW hS ls hl
      refine lv_iload_n hx hb dX5_marks_4 rfl (lv_at hl 2 rfl) ?_
      refine lv_aload_n hx hb dX5_marks_5 rfl (lv_at hl 0 rfl) ?_
      refine k_get (own := RX5) (C := RX5) (T := TX5) (N := 21) hx hb hts hinX5 hown hK hW (kc_9 g ad (set_m_nd (set_m_pm t P1) N1)) rfl 12 (by decide) (hts (.fieldLink RX5 66 "DrillVaultModel" "made" "I") (by decide +kernel)) rfl (v := .int (nI (m_md t))) rfl dX5_marks_6 ?_
      refine k_icmp_ge (tgt := 32) hx hb (a := i) (b := m_md t) (by omega) (by omega) dX5_marks_9 (by decide) (fun h_9 => ?_) (fun h_9 => ?_)
      · have hPe := k_rs_e hP1 k_lmw (show m_md t ≤ i by omega); have hNe := k_rs_e hN1 k_lmw (show m_md t ≤ i by omega)
        clear hP1 hN1
        refine lv_aload_n hx hb dX5_marks_32 rfl (lv_at hl 0 rfl) ?_
        refine lv_iconst (v := nI 1) hx hb dX5_marks_33 (by decide) ?_
        refine lv_aload_n hx hb dX5_marks_34 rfl (lv_at hl 0 rfl) ?_
        refine k_get (own := RX5) (C := RX5) (T := TX5) (N := 21) hx hb hts hinX5 hown hK hW (kc_9 g ad (set_m_nd (set_m_pm t P1) N1)) rfl 13 (by decide) (hts (.fieldLink RX5 41 "DrillVaultModel" "dayRule" "I") (by decide +kernel)) rfl (v := .int (nI (m_r1 t))) rfl dX5_marks_35 ?_
        refine k_cv (va_runV (As := [.int (nI 1), .int (nI (m_r1 t))]) (rest := []) ⟨hx, hb, hml, hown, hts⟩ (c_X5_promises_0 l hlt g ad (set_m_nd (set_m_pm t P1) N1) (m_r1 t) hr1 hm60 hmo) (cwV 2 hts gX5_marks_X5_promises rfl rfl rfl (by decide +kernel) ⟨(Nat.le_of_ble_eq_true rfl), (Nat.le_of_ble_eq_true rfl)⟩) ⟨k_blind, k_recv hK hW (kc_9 g ad (set_m_nd (set_m_pm t P1) N1)) rfl, fun U hU hw => ⟨rfl, k_I.of hK hZ hN hS hW hU hw⟩⟩ rfl rfl hl.1 rfl (lv_room (Nat.le_of_ble_eq_true rfl)) dX5_marks_38 ⟨(Nat.le_of_ble_eq_true rfl), (Nat.le_of_ble_eq_true rfl)⟩) hS (fun u H locs hpo hW hS => ?_)
        have hu9 := hpo.symm; subst hu9
        have hW : k_H g ad (set_m_pm (set_m_nd t N1) (fun j9 => P1 j9 || k_sel (m_th t) (fun j => k_pd 0 (m_on t j)) (m_md t) (m_r1 t) (-1) j9)) H := hW
        refine lv_aload_n hx hb dX5_marks_41 rfl (lv_at hl 0 rfl) ?_
        refine lv_bipush (v := nI 7) hx hb dX5_marks_42 (by decide) ?_
        refine lv_aload_n hx hb dX5_marks_44 rfl (lv_at hl 0 rfl) ?_
        refine k_get (own := RX5) (C := RX5) (T := TX5) (N := 21) hx hb hts hinX5 hown hK hW (kc_9 g ad (set_m_pm (set_m_nd t N1) (fun j9 => P1 j9 || k_sel (m_th t) (fun j => k_pd 0 (m_on t j)) (m_md t) (m_r1 t) (-1) j9))) rfl 14 (by decide) (hts (.fieldLink RX5 45 "DrillVaultModel" "weekRule" "I") (by decide +kernel)) rfl (v := .int (nI (m_r2 t))) rfl dX5_marks_45 ?_
        refine k_cv (va_runV (As := [.int (nI 7), .int (nI (m_r2 t))]) (rest := []) ⟨hx, hb, hml, hown, hts⟩ (c_X5_promises_1 l hlt g ad (set_m_pm (set_m_nd t N1) (fun j9 => P1 j9 || k_sel (m_th t) (fun j => k_pd 0 (m_on t j)) (m_md t) (m_r1 t) (-1) j9)) (m_r2 t) hr2 hm60 hmo) (cwV 2 hts gX5_marks_X5_promises rfl rfl rfl (by decide +kernel) ⟨(Nat.le_of_ble_eq_true rfl), (Nat.le_of_ble_eq_true rfl)⟩) ⟨k_blind, k_recv hK hW (kc_9 g ad (set_m_pm (set_m_nd t N1) (fun j9 => P1 j9 || k_sel (m_th t) (fun j => k_pd 0 (m_on t j)) (m_md t) (m_r1 t) (-1) j9))) rfl, fun U hU hw => ⟨rfl, k_I.of hK hZ hN hS hW hU hw⟩⟩ rfl rfl hl.1 rfl (lv_room (Nat.le_of_ble_eq_true rfl)) dX5_marks_48 ⟨(Nat.le_of_ble_eq_true rfl), (Nat.le_of_ble_eq_true rfl)⟩) hS (fun u H locs hpo hW hS => ?_)
        have hu9 := hpo.symm; subst hu9
        have hW : k_H g ad (set_m_pm (set_m_nd t N1) (fun j9 => (fun j9 => P1 j9 || k_sel (m_th t) (fun j => k_pd 0 (m_on t j)) (m_md t) (m_r1 t) (-1) j9) j9 || k_sel (m_th t) (fun j => k_pd 1 (m_on t j)) (m_md t) (m_r2 t) (-1) j9)) H := hW
        refine lv_aload_n hx hb dX5_marks_51 rfl (lv_at hl 0 rfl) ?_
        refine lv_bipush (v := nI 28) hx hb dX5_marks_52 (by decide) ?_
        refine lv_aload_n hx hb dX5_marks_54 rfl (lv_at hl 0 rfl) ?_
        refine k_get (own := RX5) (C := RX5) (T := TX5) (N := 21) hx hb hts hinX5 hown hK hW (kc_9 g ad (set_m_pm (set_m_nd t N1) (fun j9 => (fun j9 => P1 j9 || k_sel (m_th t) (fun j => k_pd 0 (m_on t j)) (m_md t) (m_r1 t) (-1) j9) j9 || k_sel (m_th t) (fun j => k_pd 1 (m_on t j)) (m_md t) (m_r2 t) (-1) j9))) rfl 15 (by decide) (hts (.fieldLink RX5 48 "DrillVaultModel" "monthRule" "I") (by decide +kernel)) rfl (v := .int (nI (m_r3 t))) rfl dX5_marks_55 ?_
        refine k_cv (va_runV (As := [.int (nI 28), .int (nI (m_r3 t))]) (rest := []) ⟨hx, hb, hml, hown, hts⟩ (c_X5_promises_2 l hlt g ad (set_m_pm (set_m_nd t N1) (fun j9 => (fun j9 => P1 j9 || k_sel (m_th t) (fun j => k_pd 0 (m_on t j)) (m_md t) (m_r1 t) (-1) j9) j9 || k_sel (m_th t) (fun j => k_pd 1 (m_on t j)) (m_md t) (m_r2 t) (-1) j9)) (m_r3 t) hr3 hm60 hmo) (cwV 2 hts gX5_marks_X5_promises rfl rfl rfl (by decide +kernel) ⟨(Nat.le_of_ble_eq_true rfl), (Nat.le_of_ble_eq_true rfl)⟩) ⟨k_blind, k_recv hK hW (kc_9 g ad (set_m_pm (set_m_nd t N1) (fun j9 => (fun j9 => P1 j9 || k_sel (m_th t) (fun j => k_pd 0 (m_on t j)) (m_md t) (m_r1 t) (-1) j9) j9 || k_sel (m_th t) (fun j => k_pd 1 (m_on t j)) (m_md t) (m_r2 t) (-1) j9))) rfl, fun U hU hw => ⟨rfl, k_I.of hK hZ hN hS hW hU hw⟩⟩ rfl rfl hl.1 rfl (lv_room (Nat.le_of_ble_eq_true rfl)) dX5_marks_58 ⟨(Nat.le_of_ble_eq_true rfl), (Nat.le_of_ble_eq_true rfl)⟩) hS (fun u H locs hpo hW hS => ?_)
        have hu9 := hpo.symm; subst hu9
        have hW : k_H g ad (set_m_pm (set_m_nd t N1) (fun j9 => (fun j9 => (fun j9 => P1 j9 || k_sel (m_th t) (fun j => k_pd 0 (m_on t j)) (m_md t) (m_r1 t) (-1) j9) j9 || k_sel (m_th t) (fun j => k_pd 1 (m_on t j)) (m_md t) (m_r2 t) (-1) j9) j9 || k_sel (m_th t) (fun j => k_pd 2 (m_on t j)) (m_md t) (m_r3 t) (-1) j9)) H := hW
        obtain ⟨PV, hPV⟩ : ∃ PV, PV = (k_PmM (m_md t) (m_th t) (m_pm t) (m_on t) (m_r1 t) (m_r2 t) (m_r3 t)) := ⟨_, rfl⟩
        have hNf : ∀ j, N1 j = (fun j => if decide (j < m_md t) = true then false else m_nd t j) j := fun j => congrFun hNe j
        have hW : k_H g ad (set_m_nd (set_m_pm t PV) N1) H := by
          rw [hPV, show (k_PmM (m_md t) (m_th t) (m_pm t) (m_on t) (m_r1 t) (m_r2 t) (m_r3 t)) = (fun j9 => (fun j9 => (fun j9 => P1 j9 || k_sel (m_th t) (fun j => k_pd 0 (m_on t j)) (m_md t) (m_r1 t) (-1) j9) j9 || k_sel (m_th t) (fun j => k_pd 1 (m_on t j)) (m_md t) (m_r2 t) (-1) j9) j9 || k_sel (m_th t) (fun j => k_pd 2 (m_on t j)) (m_md t) (m_r3 t) (-1) j9) from funext fun j => by rw [hPe]; simp only [k_PmM, k_P, Bool.or_assoc]]; exact hW
        clear hPe hNe
        refine lv_iconst (v := nI 0) hx hb dX5_marks_61 (by decide) ?_
        refine lv_istore_n (lv' := [(2, .int (nI 0)), (0, .ref (ad 9 0)), (1, .int (nI 0))]) hx hb dX5_marks_62 rfl hl (by decide) rfl (fun ls hl => ?_)
        have hloop_63 : ∀ (n : Nat) (q : Nat) (cn : Nat) (N2 : Nat → Bool), (m_md t < q + n) → (q ≤ m_md t) → (cn = k_cb PV q) → (∀ j, N2 j = ((fun j => if decide (j < m_md t) = true then false else m_nd t j) j || k_nd (fun _ => true) PV (m_b t) q j)) → ∀ (H : Heap) (locs : List Loc), k_H g ad (set_m_nd (set_m_pm t PV) N2) H → va_S (k_A g) s.heap H locs → ∀ (ls : Array Slot), lv_has ls 4 [(0, .ref (ad 9 0)), (1, .int (nI cn)), (2, .int (nI q))] → W p l e rm_X5_marks s m args below meth c H locs 0 0 Q (F0 m 63 ls []) := by
          intro n
          induction n with
          | zero =>
            intro q cn N2 hfu hi hcn hN2
            exact absurd hfu (by omega)
          | succ n ih_63 =>
            intro q cn N2 hfu hi hcn hN2 H locs hW hS ls hl
            refine lv_iload_n hx hb dX5_marks_63 rfl (lv_at hl 2 rfl) ?_
            refine lv_aload_n hx hb dX5_marks_64 rfl (lv_at hl 0 rfl) ?_
            refine k_get (own := RX5) (C := RX5) (T := TX5) (N := 21) hx hb hts hinX5 hown hK hW (kc_9 g ad (set_m_nd (set_m_pm t PV) N2)) rfl 12 (by decide) (hts (.fieldLink RX5 66 "DrillVaultModel" "made" "I") (by decide +kernel)) rfl (v := .int (nI (m_md t))) rfl dX5_marks_65 ?_
            refine k_icmp_ge (tgt := 127) hx hb (a := q) (b := m_md t) (by omega) (by omega) dX5_marks_68 (by decide) (fun h_68 => ?_) (fun h_68 => ?_)
            · subst hPV
              have hNe : N2 = (k_NmM (m_md t) (m_nd t) (k_PmM (m_md t) (m_th t) (m_pm t) (m_on t) (m_r1 t) (m_r2 t) (m_r3 t)) (m_b t)) := funext fun j => by rw [hN2 j, show q = m_md t by omega]; rfl
              subst hNe
              have hW : k_H g ad (set_m_nd (set_m_pm t (k_PmM (m_md t) (m_th t) (m_pm t) (m_on t) (m_r1 t) (m_r2 t) (m_r3 t))) (k_NmM (m_md t) (m_nd t) (k_PmM (m_md t) (m_th t) (m_pm t) (m_on t) (m_r1 t) (m_r2 t) (m_r3 t)) (m_b t))) H := hW
              refine lv_iload_n hx hb dX5_marks_127 rfl (lv_at hl 1 rfl) ?_
              exact k_ri hQ hx hb hr hlk hS hW ⟨by rw [hcn, show q = m_md t by omega], rfl⟩ (Nat.le_of_ble_eq_true rfl) (Nat.le_of_ble_eq_true rfl) dX5_marks_128
            · refine lv_iload_n hx hb dX5_marks_71 rfl (lv_at hl 1 rfl) ?_
              refine lv_aload_n hx hb dX5_marks_72 rfl (lv_at hl 0 rfl) ?_
              refine k_get (own := RX5) (C := RX5) (T := TX5) (N := 21) hx hb hts hinX5 hown hK hW (kc_9 g ad (set_m_nd (set_m_pm t PV) N2)) rfl 16 (by decide) (hts (.fieldLink RX5 51 "DrillVaultModel" "promised" "[Z") (by decide +kernel)) rfl (v := .ref (ad 20 0)) rfl dX5_marks_73 ?_
              refine lv_iload_n hx hb dX5_marks_76 rfl (lv_at hl 2 rfl) ?_
              refine k_zald hx hb hK hW (kc_20 g ad (set_m_nd (set_m_pm t PV) N2)) q rfl (by omega) (by decide) dX5_marks_77 ?_
              refine k_tov (y := .int (kb (PV q))) rfl ?_
              refine k_ifz_eq (tgt := 85) hx hb dX5_marks_78 (by decide) (fun h_78 => ?_) (fun h_78 => ?_)
              · refine lv_iconst (v := nI 0) hx hb dX5_marks_85 (by decide) ?_
                refine k_iadd hx hb dX5_marks_86 ?_
                refine lv_istore_n (lv' := [(1, .int (nI (cn + 0))), (0, .ref (ad 9 0)), (2, .int (nI q))]) hx hb dX5_marks_87 rfl hl (by decide) rfl (fun ls hl => ?_)
                refine lv_iload_n hx hb dX5_marks_88 rfl (lv_at hl 2 rfl) ?_
                refine lv_istore_n (lv' := [(3, .int (nI q)), (1, .int (nI (cn + 0))), (0, .ref (ad 9 0)), (2, .int (nI q))]) hx hb dX5_marks_89 rfl hl (by decide) rfl (fun ls hl => ?_)
                refine lv_iload_n hx hb dX5_marks_90 rfl (lv_at hl 0 rfl) ?_
                refine lv_iconst (v := (-1)) hx hb dX5_marks_91 (by decide) ?_
                refine lv_icmp_eq (tgt := 121) hx hb dX5_marks_92 (by decide) (fun h_92 => absurd h_92 (k_nm1 (by omega))) (fun h_92 => ?_)
                refine lv_aload_n hx hb dX5_marks_95 rfl (lv_at hl 2 rfl) ?_
                refine k_get (own := RX5) (C := RX5) (T := TX5) (N := 21) hx hb hts hinX5 hown hK hW (kc_9 g ad (set_m_nd (set_m_pm t PV) N2)) rfl 16 (by decide) (hts (.fieldLink RX5 51 "DrillVaultModel" "promised" "[Z") (by decide +kernel)) rfl (v := .ref (ad 20 0)) rfl dX5_marks_96 ?_
                refine lv_iload_n hx hb dX5_marks_99 rfl (lv_at hl 3 rfl) ?_
                refine k_zald hx hb hK hW (kc_20 g ad (set_m_nd (set_m_pm t PV) N2)) q rfl (by omega) (by decide) dX5_marks_100 ?_
                refine k_tov (y := .int (kb (PV q))) rfl ?_
                refine k_ifz_eq (tgt := 121) hx hb dX5_marks_101 (by decide) (fun h_101 => ?_) (fun h_101 => absurd h_101 (fun q => absurd (h_78.symm.trans q) (by decide)))
                refine lv_iinc (v := nI (q + 1)) (lv' := [(2, .int (nI (q + 1))), (3, .int (nI q)), (1, .int (nI (cn + 0))), (0, .ref (ad 9 0))]) hx hb dX5_marks_121 hl (k := 3) rfl (nI_add _ _) (by decide) rfl (fun ls hl => ?_)
                refine lv_goto (tgt := 63) hx hb dX5_marks_124 (by decide) ?_
                exact ih_63 (q + 1) (cn + 0) N2 (by omega) (by omega) (by rw [k_cb_n h_78, hcn, Nat.add_zero]) (fun j => by rw [hN2 j, k_nd_n (by rw [h_78]; rfl)]) _ _ hW hS _ (lv_sub hl [3, 2, 0] rfl)
              · refine lv_iconst (v := nI 1) hx hb dX5_marks_81 (by decide) ?_
                refine lv_goto (tgt := 86) hx hb dX5_marks_82 (by decide) ?_
                refine k_iadd hx hb dX5_marks_86 ?_
                refine lv_istore_n (lv' := [(1, .int (nI (cn + 1))), (0, .ref (ad 9 0)), (2, .int (nI q))]) hx hb dX5_marks_87 rfl hl (by decide) rfl (fun ls hl => ?_)
                refine lv_iload_n hx hb dX5_marks_88 rfl (lv_at hl 2 rfl) ?_
                refine lv_istore_n (lv' := [(3, .int (nI q)), (1, .int (nI (cn + 1))), (0, .ref (ad 9 0)), (2, .int (nI q))]) hx hb dX5_marks_89 rfl hl (by decide) rfl (fun ls hl => ?_)
                have hloop_90 : ∀ (n : Nat) (cur : Option Nat) (N3 : Nat → Bool), (0 < n) → (∀ q, cur = some q → q + 1 < n ∧ q < m_md t) → (∀ j, (fun j => N2 j || (k_cl (m_b t) q).contains j) j = (N3 j || (k_clo (m_b t) cur).contains j)) → ∀ (H : Heap) (locs : List Loc), k_H g ad (set_m_nd (set_m_pm t PV) N3) H → va_S (k_A g) s.heap H locs → ∀ (ls : Array Slot), lv_has ls 4 [(0, .ref (ad 9 0)), (1, .int (nI (cn + 1))), (2, .int (nI q)), (3, .int (kO cur))] → W p l e rm_X5_marks s m args below meth c H locs 0 0 Q (F0 m 90 ls []) := by
                  intro n
                  induction n with
                  | zero =>
                    intro cur N3 hfu2 hck hN3
                    exact absurd hfu2 (by omega)
                  | succ n ih_90 =>
                    intro cur N3 hfu2 hck hN3 H locs hW hS ls hl
                    rcases cur with _ | k
                    · have hl : lv_has ls 4 [(0, .ref (ad 9 0)), (1, .int (nI (cn + 1))), (2, .int (nI q)), (3, .int (-1))] := hl
                      refine lv_iload_n hx hb dX5_marks_90 rfl (lv_at hl 3 rfl) ?_
                      refine lv_iconst (v := (-1)) hx hb dX5_marks_91 (by decide) ?_
                      refine lv_icmp_eq (tgt := 121) hx hb dX5_marks_92 (by decide) (fun h_92 => ?_) (fun h_92 => absurd rfl h_92)
                      refine lv_iinc (v := nI (q + 1)) (lv' := [(2, .int (nI (q + 1))), (0, .ref (ad 9 0)), (1, .int (nI (cn + 1))), (3, .int (-1))]) hx hb dX5_marks_121 hl (k := 2) rfl (nI_add _ _) (by decide) rfl (fun ls hl => ?_)
                      refine lv_goto (tgt := 63) hx hb dX5_marks_124 (by decide) ?_
                      exact ih_63 (q + 1) (cn + 1) N3 (by omega) (by omega) (by rw [k_cb_y h_78, hcn]) (fun j => by rw [k_out hN3 j, k_nd_y rfl h_78, ← Bool.or_assoc, ← hN2 j]) _ _ hW hS _ (lv_sub hl [1, 2, 0] rfl)
                    · have hl : lv_has ls 4 [(0, .ref (ad 9 0)), (1, .int (nI (cn + 1))), (2, .int (nI q)), (3, .int (nI k))] := hl
                      have hkm : k < m_md t := (hck _ rfl).2
                      have hdk : ∀ b, m_b t k = some b → b < k := fun b hb => hmb _ _ hkm hb
                      rw [k_clo_some hdk] at hN3
                      refine lv_iload_n hx hb dX5_marks_90 rfl (lv_at hl 3 rfl) ?_
                      refine lv_iconst (v := (-1)) hx hb dX5_marks_91 (by decide) ?_
                      refine lv_icmp_eq (tgt := 121) hx hb dX5_marks_92 (by decide) (fun h_92 => absurd h_92 (k_nm1 (by omega))) (fun h_92 => ?_)
                      refine lv_aload_n hx hb dX5_marks_95 rfl (lv_at hl 0 rfl) ?_
                      refine k_get (own := RX5) (C := RX5) (T := TX5) (N := 21) hx hb hts hinX5 hown hK hW (kc_9 g ad (set_m_nd (set_m_pm t PV) N3)) rfl 16 (by decide) (hts (.fieldLink RX5 51 "DrillVaultModel" "promised" "[Z") (by decide +kernel)) rfl (v := .ref (ad 20 0)) rfl dX5_marks_96 ?_
                      refine lv_iload_n hx hb dX5_marks_99 rfl (lv_at hl 2 rfl) ?_
                      refine k_zald hx hb hK hW (kc_20 g ad (set_m_nd (set_m_pm t PV) N3)) q rfl (by omega) (by decide) dX5_marks_100 ?_
                      refine k_tov (y := .int (kb (PV q))) rfl ?_
                      refine k_ifz_eq (tgt := 121) hx hb dX5_marks_101 (by decide) (fun h_101 => absurd h_101 (fun q => absurd (h_78.symm.trans q) (by decide))) (fun h_101 => ?_)
                      refine lv_aload_n hx hb dX5_marks_104 rfl (lv_at hl 0 rfl) ?_
                      refine k_get (own := RX5) (C := RX5) (T := TX5) (N := 21) hx hb hts hinX5 hown hK hW (kc_9 g ad (set_m_nd (set_m_pm t PV) N3)) rfl 17 (by decide) (hts (.fieldLink RX5 54 "DrillVaultModel" "needed" "[Z") (by decide +kernel)) rfl (v := .ref (ad 21 0)) rfl dX5_marks_105 ?_
                      refine lv_iload_n hx hb dX5_marks_108 rfl (lv_at hl 3 rfl) ?_
                      refine lv_iconst (v := nI 1) hx hb dX5_marks_109 (by decide) ?_
                      refine k_zast hx hb hK hW hS (kc_21 g ad (set_m_nd (set_m_pm t PV) N3)) rfl k rfl (by omega) (by decide) dX5_marks_110 (fun H locs hW hS => ?_)
                      have hW : k_H g ad (set_m_nd (set_m_pm t PV) (va_up N3 k true)) H := kt_m_nd (t := set_m_nd (set_m_pm t PV) N3) k true rfl hW
                      refine lv_aload_n hx hb dX5_marks_111 rfl (lv_at hl 0 rfl) ?_
                      refine k_get (own := RX5) (C := RX5) (T := TX5) (N := 21) hx hb hts hinX5 hown hK hW (kc_9 g ad (set_m_nd (set_m_pm t PV) (va_up N3 k true))) rfl 5 (by decide) (hts (.fieldLink RX5 19 "DrillVaultModel" "bases" "[I") (by decide +kernel)) rfl (v := .ref (ad 13 0)) rfl dX5_marks_112 ?_
                      refine lv_iload_n hx hb dX5_marks_115 rfl (lv_at hl 3 rfl) ?_
                      refine k_iald hx hb hK hW (kc_13 g ad (set_m_nd (set_m_pm t PV) (va_up N3 k true))) k rfl (by omega) (by decide) dX5_marks_116 ?_
                      refine lv_istore_n (lv' := [(3, .int (kO (m_b t k))), (0, .ref (ad 9 0)), (1, .int (nI (cn + 1))), (2, .int (nI q))]) hx hb dX5_marks_117 rfl hl (by decide) rfl (fun ls hl => ?_)
                      refine lv_goto (tgt := 90) hx hb dX5_marks_118 (by decide) ?_
                      exact ih_90 (m_b t k) (va_up N3 k true) (by have := (hck _ rfl).1; omega) (fun q hq => by have h1 := (hck _ rfl).1; have h2 := hmb _ _ hkm hq; exact ⟨by omega, by omega⟩) (k_nd_step hN3) _ _ hW hS _ (lv_sub hl [1, 2, 3, 0] rfl)
                exact hloop_90 (q + 2) (some q) N2 (by omega) (fun q hq => by cases hq; exact ⟨by omega, h_68⟩) (fun j => rfl) _ _ hW hS _ (lv_sub hl [2, 1, 3, 0] rfl)
        exact hloop_63 (m_md t + 1) 0 0 N1 (by omega) (by omega) rfl (fun j => (hNf j).trans (Bool.or_false _).symm) _ _ hW hS _ (lv_sub hl [1, 2, 0] rfl)
      · refine lv_aload_n hx hb dX5_marks_12 rfl (lv_at hl 0 rfl) ?_
        refine k_get (own := RX5) (C := RX5) (T := TX5) (N := 21) hx hb hts hinX5 hown hK hW (kc_9 g ad (set_m_nd (set_m_pm t P1) N1)) rfl 16 (by decide) (hts (.fieldLink RX5 51 "DrillVaultModel" "promised" "[Z") (by decide +kernel)) rfl (v := .ref (ad 20 0)) rfl dX5_marks_13 ?_
        refine lv_iload_n hx hb dX5_marks_16 rfl (lv_at hl 2 rfl) ?_
        refine lv_iconst (v := nI 0) hx hb dX5_marks_17 (by decide) ?_
        refine k_zast hx hb hK hW hS (kc_20 g ad (set_m_nd (set_m_pm t P1) N1)) rfl i rfl (by omega) (by decide) dX5_marks_18 (fun H locs hW hS => ?_)
        have hW : k_H g ad (set_m_pm (set_m_nd t N1) (va_up P1 i false)) H := kt_m_pm (t := set_m_nd (set_m_pm t P1) N1) i false rfl hW
        refine lv_aload_n hx hb dX5_marks_19 rfl (lv_at hl 0 rfl) ?_
        refine k_get (own := RX5) (C := RX5) (T := TX5) (N := 21) hx hb hts hinX5 hown hK hW (kc_9 g ad (set_m_pm (set_m_nd t N1) (va_up P1 i false))) rfl 17 (by decide) (hts (.fieldLink RX5 54 "DrillVaultModel" "needed" "[Z") (by decide +kernel)) rfl (v := .ref (ad 21 0)) rfl dX5_marks_20 ?_
        refine lv_iload_n hx hb dX5_marks_23 rfl (lv_at hl 2 rfl) ?_
        refine lv_iconst (v := nI 0) hx hb dX5_marks_24 (by decide) ?_
        refine k_zast hx hb hK hW hS (kc_21 g ad (set_m_pm (set_m_nd t N1) (va_up P1 i false))) rfl i rfl (by omega) (by decide) dX5_marks_25 (fun H locs hW hS => ?_)
        have hW : k_H g ad (set_m_nd (set_m_pm t (va_up P1 i false)) (va_up N1 i false)) H := kt_m_nd (t := set_m_pm (set_m_nd t N1) (va_up P1 i false)) i false rfl hW
        refine lv_iinc (v := nI (i + 1)) (lv' := [(2, .int (nI (i + 1))), (0, .ref (ad 9 0)), (1, .int (nI 0))]) hx hb dX5_marks_26 hl (k := 2) rfl (nI_add _ _) (by decide) rfl (fun ls hl => ?_)
        refine lv_goto (tgt := 4) hx hb dX5_marks_29 (by decide) ?_
        exact ih (i + 1) (va_up P1 i false) (va_up N1 i false) (by omega) (by omega) (k_rs hP1 (k_lm h_9) rfl) (k_rs hN1 (k_lm h_9) rfl) _ _ hW hS _ (lv_sub hl [1, 2, 0] rfl)
  exact hloop_4 (m_md t + 1) 0 (m_pm t) (m_nd t) (by omega) (by omega) k_rs_0 k_rs_0 _ _ hW hS _ (lv_sub hl [2, 1, 0] rfl)
abbrev rm_X5_isBroken : Room := { frames := 0, cells := 0, slots := 0, locals := 0 }
set_option maxRecDepth 100000 in
set_option maxHeartbeats 4000000 in
theorem c_X5_isBroken (l : Launch) (hlt : l.stackTraces = false) (g : k_g) (ad : k_AD) (t : k_T) (k0 : Nat) (hk : k0 < m_md t) (hm60 : m_md t ≤ 60) (hmb : ∀ k b, k < m_md t → m_b t k = some b → b < k) : Met l yX5_isBroken wsX5_isBroken rm_X5_isBroken (va_Pc [.ref (ad 9 0), .int (nI k0)] (k_I g (k_ct g ad t) ad)) (va_Qi (fun r u => r = kb ((k_cl (m_b t) k0).any (m_dm t)) ∧ u = t) (fun u U => k_H g ad u U.heap) (k_A g)) 0 0 (k_A g) := by
  refine k_met (cc := cX5_isBroken) (maxL := 4) (ret := (some .boolean)) (by decide) rfl (Nat.le_of_ble_eq_true rfl) (fun p e s m args below meth c Q ls hQ hx hb hr hml hts hown hlk hin hK hZ hN hW hS hl => ?_)
  have hown : s.vm.findClass RX5 = some m.cls := hown
  have hW : k_H g ad t s.heap := hW
  have hl : lv_has ls 4 [(0, .ref (ad 9 0)), (1, .int (nI k0))] := hl
  have hinX5 : ∀ w ∈ wsX50, w ∈ wsX5_isBroken := by decide +kernel
  refine lv_iconst (v := nI 0) hx hb dX5_isBroken_0 (by decide) ?_
  refine lv_istore_n (lv' := [(2, .int (nI 0)), (0, .ref (ad 9 0)), (1, .int (nI k0))]) hx hb dX5_isBroken_1 rfl hl (by decide) rfl (fun ls hl => ?_)
  refine lv_iload_n hx hb dX5_isBroken_2 rfl (lv_at hl 2 rfl) ?_
  refine lv_istore_n (lv' := [(3, .int (nI k0)), (2, .int (nI 0)), (0, .ref (ad 9 0)), (1, .int (nI k0))]) hx hb dX5_isBroken_3 rfl hl (by decide) rfl (fun ls hl => ?_)
  have hloop_4 : ∀ (n : Nat) (cur : Option Nat) (bb : Bool), (0 < n) → (∀ q, cur = some q → q + 1 < n ∧ q < m_md t) → ((k_cl (m_b t) k0).any (m_dm t) = (bb || (k_clo (m_b t) cur).any (m_dm t))) → ∀ (H : Heap) (locs : List Loc), k_H g ad t H → va_S (k_A g) s.heap H locs → ∀ (ls : Array Slot), lv_has ls 4 [(0, .ref (ad 9 0)), (2, .int (kb bb)), (3, .int (kO cur))] → W p l e rm_X5_isBroken s m args below meth c H locs 0 0 Q (F0 m 4 ls []) := by
    intro n
    induction n with
    | zero =>
      intro cur bb hfu2 hck hz
      exact absurd hfu2 (by omega)
    | succ n ih =>
      intro cur bb hfu2 hck hz H locs hW hS ls hl
      rcases cur with _ | k
      · have hl : lv_has ls 4 [(0, .ref (ad 9 0)), (2, .int (kb bb)), (3, .int (-1))] := hl
        refine lv_iload_n hx hb dX5_isBroken_4 rfl (lv_at hl 2 rfl) ?_
        refine lv_iconst (v := (-1)) hx hb dX5_isBroken_5 (by decide) ?_
        refine lv_icmp_eq (tgt := 38) hx hb dX5_isBroken_6 (by decide) (fun h_6 => ?_) (fun h_6 => absurd rfl h_6)
        refine lv_iload_n hx hb dX5_isBroken_38 rfl (lv_at hl 1 rfl) ?_
        exact k_rz hQ hx hb hr (kb_nar _) hlk hS hW ⟨by rw [hz]; show _ = kb (bb || false); rw [Bool.or_false], rfl⟩ (Nat.le_of_ble_eq_true rfl) (Nat.le_of_ble_eq_true rfl) dX5_isBroken_39
      · have hl : lv_has ls 4 [(0, .ref (ad 9 0)), (2, .int (kb bb)), (3, .int (nI k))] := hl
        have hkm : k < m_md t := (hck _ rfl).2
        have hdk : ∀ b, m_b t k = some b → b < k := fun b hb => hmb _ _ hkm hb
        rw [k_clo_some hdk, List.any_cons] at hz
        refine lv_iload_n hx hb dX5_isBroken_4 rfl (lv_at hl 2 rfl) ?_
        refine lv_iconst (v := (-1)) hx hb dX5_isBroken_5 (by decide) ?_
        refine lv_icmp_eq (tgt := 38) hx hb dX5_isBroken_6 (by decide) (fun h_6 => absurd h_6 (k_nm1 (by omega))) (fun h_6 => ?_)
        refine lv_iload_n hx hb dX5_isBroken_9 rfl (lv_at hl 1 rfl) ?_
        refine k_ifz_ne (tgt := 22) hx hb dX5_isBroken_10 (by decide) (fun h_10 => ?_) (fun h_10 => ?_)
        · refine lv_iconst (v := nI 1) hx hb dX5_isBroken_22 (by decide) ?_
          refine lv_goto (tgt := 27) hx hb dX5_isBroken_23 (by decide) ?_
          refine lv_istore_n (lv' := [(2, .int (nI 1)), (0, .ref (ad 9 0)), (3, .int (nI k))]) hx hb dX5_isBroken_27 rfl hl (by decide) rfl (fun ls hl => ?_)
          refine lv_aload_n hx hb dX5_isBroken_28 rfl (lv_at hl 1 rfl) ?_
          refine k_get (own := RX5) (C := RX5) (T := TX5) (N := 21) hx hb hts hinX5 hown hK hW (kc_9 g ad t) rfl 5 (by decide) (hts (.fieldLink RX5 19 "DrillVaultModel" "bases" "[I") (by decide +kernel)) rfl (v := .ref (ad 13 0)) rfl dX5_isBroken_29 ?_
          refine lv_iload_n hx hb dX5_isBroken_32 rfl (lv_at hl 2 rfl) ?_
          refine k_iald hx hb hK hW (kc_13 g ad t) k rfl (by omega) (by decide) dX5_isBroken_33 ?_
          refine lv_istore_n (lv' := [(3, .int (kO (m_b t k))), (2, .int (nI 1)), (0, .ref (ad 9 0))]) hx hb dX5_isBroken_34 rfl hl (by decide) rfl (fun ls hl => ?_)
          refine lv_goto (tgt := 4) hx hb dX5_isBroken_35 (by decide) ?_
          exact ih (m_b t k) true (by have := (hck _ rfl).1; omega) (fun q hq => by have h1 := (hck _ rfl).1; have h2 := hmb _ _ hkm hq; exact ⟨by omega, by omega⟩) (by rw [hz, h_10]; rfl) _ _ hW hS _ (lv_sub hl [2, 1, 0] rfl)
        · refine lv_aload_n hx hb dX5_isBroken_13 rfl (lv_at hl 0 rfl) ?_
          refine k_get (own := RX5) (C := RX5) (T := TX5) (N := 21) hx hb hts hinX5 hown hK hW (kc_9 g ad t) rfl 10 (by decide) (hts (.fieldLink RX5 35 "DrillVaultModel" "damaged" "[Z") (by decide +kernel)) rfl (v := .ref (ad 18 0)) rfl dX5_isBroken_14 ?_
          refine lv_iload_n hx hb dX5_isBroken_17 rfl (lv_at hl 2 rfl) ?_
          refine k_zald hx hb hK hW (kc_18 g ad t) k rfl (by omega) (by decide) dX5_isBroken_18 ?_
          refine k_ifz_eq (tgt := 26) hx hb dX5_isBroken_19 (by decide) (fun h_19 => ?_) (fun h_19 => ?_)
          · refine lv_iconst (v := nI 0) hx hb dX5_isBroken_26 (by decide) ?_
            refine lv_istore_n (lv' := [(2, .int (nI 0)), (0, .ref (ad 9 0)), (3, .int (nI k))]) hx hb dX5_isBroken_27 rfl hl (by decide) rfl (fun ls hl => ?_)
            refine lv_aload_n hx hb dX5_isBroken_28 rfl (lv_at hl 1 rfl) ?_
            refine k_get (own := RX5) (C := RX5) (T := TX5) (N := 21) hx hb hts hinX5 hown hK hW (kc_9 g ad t) rfl 5 (by decide) (hts (.fieldLink RX5 19 "DrillVaultModel" "bases" "[I") (by decide +kernel)) rfl (v := .ref (ad 13 0)) rfl dX5_isBroken_29 ?_
            refine lv_iload_n hx hb dX5_isBroken_32 rfl (lv_at hl 2 rfl) ?_
            refine k_iald hx hb hK hW (kc_13 g ad t) k rfl (by omega) (by decide) dX5_isBroken_33 ?_
            refine lv_istore_n (lv' := [(3, .int (kO (m_b t k))), (2, .int (nI 0)), (0, .ref (ad 9 0))]) hx hb dX5_isBroken_34 rfl hl (by decide) rfl (fun ls hl => ?_)
            refine lv_goto (tgt := 4) hx hb dX5_isBroken_35 (by decide) ?_
            exact ih (m_b t k) false (by have := (hck _ rfl).1; omega) (fun q hq => by have h1 := (hck _ rfl).1; have h2 := hmb _ _ hkm hq; exact ⟨by omega, by omega⟩) (by rw [hz, h_10, h_19]; rfl) _ _ hW hS _ (lv_sub hl [2, 1, 0] rfl)
          · refine lv_iconst (v := nI 1) hx hb dX5_isBroken_22 (by decide) ?_
            refine lv_goto (tgt := 27) hx hb dX5_isBroken_23 (by decide) ?_
            refine lv_istore_n (lv' := [(2, .int (nI 1)), (0, .ref (ad 9 0)), (3, .int (nI k))]) hx hb dX5_isBroken_27 rfl hl (by decide) rfl (fun ls hl => ?_)
            refine lv_aload_n hx hb dX5_isBroken_28 rfl (lv_at hl 1 rfl) ?_
            refine k_get (own := RX5) (C := RX5) (T := TX5) (N := 21) hx hb hts hinX5 hown hK hW (kc_9 g ad t) rfl 5 (by decide) (hts (.fieldLink RX5 19 "DrillVaultModel" "bases" "[I") (by decide +kernel)) rfl (v := .ref (ad 13 0)) rfl dX5_isBroken_29 ?_
            refine lv_iload_n hx hb dX5_isBroken_32 rfl (lv_at hl 2 rfl) ?_
            refine k_iald hx hb hK hW (kc_13 g ad t) k rfl (by omega) (by decide) dX5_isBroken_33 ?_
            refine lv_istore_n (lv' := [(3, .int (kO (m_b t k))), (2, .int (nI 1)), (0, .ref (ad 9 0))]) hx hb dX5_isBroken_34 rfl hl (by decide) rfl (fun ls hl => ?_)
            refine lv_goto (tgt := 4) hx hb dX5_isBroken_35 (by decide) ?_
            exact ih (m_b t k) true (by have := (hck _ rfl).1; omega) (fun q hq => by have h1 := (hck _ rfl).1; have h2 := hmb _ _ hkm hq; exact ⟨by omega, by omega⟩) (by rw [hz, h_10, h_19]; rfl) _ _ hW hS _ (lv_sub hl [2, 1, 0] rfl)
  exact hloop_4 (k0 + 2) (some k0) false (by omega) (fun q hq => by cases hq; exact ⟨by omega, hk⟩) (Bool.false_or _).symm _ _ hW hS _ (lv_sub hl [2, 1, 0] rfl)
abbrev rm_X5_damage : Room := { frames := 2, cells := 0, slots := 0, locals := 48 }
set_option maxRecDepth 100000 in
set_option maxHeartbeats 4000000 in
theorem c_X5_damage_b (l : Launch) (hlt : l.stackTraces = false) (g : k_g) (ad : k_AD) (t : k_T) (z : Int32) (hz : z < 0 ∨ nI 60 ≤ z ∨ ∃ j, j < 60 ∧ z = nI j ∧ m_th t j = false) (hm60 : m_md t ≤ 60) : Met l yX5_damage wsX5_damage rm_X5_damage (va_Pc [.ref (ad 9 0), .int z] (k_I g (k_ct g ad t) ad)) (va_Qi (fun r u => r = nI 0 ∧ u = set_m_l t 1) (fun u U => k_H g ad u U.heap) (k_A g)) 0 0 (k_A g) := by
  refine k_met (cc := cX5_damage) (maxL := 4) (ret := (some .int)) (by decide) rfl (Nat.le_of_ble_eq_true rfl) (fun p e s m args below meth c Q ls hQ hx hb hr hml hts hown hlk hin hK hZ hN hW hS hl => ?_)
  have hown : s.vm.findClass RX5 = some m.cls := hown
  have hW : k_H g ad t s.heap := hW
  have hl : lv_has ls 4 [(0, .ref (ad 9 0)), (1, .int z)] := hl
  refine lv_aload_n hx hb dX5_damage_0 rfl (lv_at hl 0 rfl) ?_
  refine lv_aload_n hx hb dX5_damage_1 rfl (lv_at hl 0 rfl) ?_
  refine lv_iload_n hx hb dX5_damage_2 rfl (lv_at hl 1 rfl) ?_
  refine k_ci (va_runV (As := [.int z]) (rest := [.ref (ad 9 0)]) ⟨hx, hb, hml, hown, hts⟩ (c_X5_isCopy_b l hlt g ad t z hz hm60) (cwV 1 hts gX5_damage_X5_isCopy rfl rfl rfl (by decide +kernel) ⟨(Nat.le_of_ble_eq_true rfl), (Nat.le_of_ble_eq_true rfl)⟩) ⟨k_blind, k_recv hK hW (kc_9 g ad t) rfl, fun U hU hw => ⟨rfl, k_I.of hK hZ hN hS hW hU hw⟩⟩ rfl rfl hl.1 rfl (lv_room (Nat.le_of_ble_eq_true rfl)) dX5_damage_3 ⟨(Nat.le_of_ble_eq_true rfl), (Nat.le_of_ble_eq_true rfl)⟩) hS (fun r u H locs hpo hW hS => ?_)
  obtain ⟨hr9, hu9⟩ := hpo; replace hu9 := hu9.symm; subst hu9; replace hr9 := hr9.symm; subst hr9
  refine lv_iconst (v := nI 1) hx hb dX5_damage_6 (by decide) ?_
  refine lv_iconst (v := nI 1) hx hb dX5_damage_7 (by decide) ?_
  refine k_ci (va_runV (As := [.int (nI 0), .int (nI 1), .int (nI 1)]) (rest := []) ⟨hx, hb, hml, hown, hts⟩ (c_X5_goes_1 l hlt g ad t (nI 1) (nI 1) ) (cwV 3 hts gX5_damage_X5_goes rfl rfl rfl (by decide +kernel) ⟨(Nat.le_of_ble_eq_true rfl), (Nat.le_of_ble_eq_true rfl)⟩) ⟨k_blind, k_recv hK hW (kc_9 g ad t) rfl, fun U hU hw => ⟨rfl, k_I.of hK hZ hN hS hW hU hw⟩⟩ rfl rfl hl.1 rfl (lv_room (Nat.le_of_ble_eq_true rfl)) dX5_damage_8 ⟨(Nat.le_of_ble_eq_true rfl), (Nat.le_of_ble_eq_true rfl)⟩) hS (fun r u H locs hpo hW hS => ?_)
  obtain ⟨hr9, hu9⟩ := hpo; replace hu9 := hu9.symm; subst hu9; replace hr9 := hr9.symm; subst hr9
  have hW : k_H g ad (set_m_l t 1) H := hW
  refine lv_if_ne (tgt := 16) hx hb dX5_damage_11 (by decide) (fun h_11 => absurd h_11 (by decide)) (fun h_11 => ?_)
  refine lv_iconst (v := nI 0) hx hb dX5_damage_14 (by decide) ?_
  exact k_ri hQ hx hb hr hlk hS hW ⟨rfl, rfl⟩ (Nat.le_of_ble_eq_true rfl) (Nat.le_of_ble_eq_true rfl) dX5_damage_15
set_option maxRecDepth 100000 in
set_option maxHeartbeats 4000000 in
theorem c_X5_damage_ok (l : Launch) (hlt : l.stackTraces = false) (g : k_g) (ad : k_AD) (t : k_T) (j : Nat) (hj : j < 60) (hs : m_th t j = true) (hmt : ∀ j, m_th t j = true → j < m_md t) (hm60 : m_md t ≤ 60) (hmb : ∀ k b, k < m_md t → m_b t k = some b → b < k) (hmo : ∀ j, j < m_md t → m_on t j ≤ 360) (hr1 : m_r1 t ≤ 30) (hr2 : m_r2 t ≤ 30) (hr3 : m_r3 t ≤ 30) : Met l yX5_damage wsX5_damage rm_X5_damage (va_Pc [.ref (ad 9 0), .int (nI j)] (k_I g (k_ct g ad t) ad)) (va_Qi (fun r u => r = nI (k_cb (fun k => (k_PmM (m_md t) (m_th t) (m_pm t) (m_on t) (m_r1 t) (m_r2 t) (m_r3 t)) k && (k_cl (m_b t) k).any (va_up (m_dm t) j true)) (m_md t)) ∧ u = set_m_nd (set_m_pm (set_m_pv (set_m_dm (set_m_l t 0) (va_up (m_dm t) j true)) (va_up (m_pv t) j false)) (k_PmM (m_md t) (m_th t) (m_pm t) (m_on t) (m_r1 t) (m_r2 t) (m_r3 t))) (k_NmM (m_md t) (m_nd t) (k_PmM (m_md t) (m_th t) (m_pm t) (m_on t) (m_r1 t) (m_r2 t) (m_r3 t)) (m_b t))) (fun u U => k_H g ad u U.heap) (k_A g)) 0 0 (k_A g) := by
  refine k_met (cc := cX5_damage) (maxL := 4) (ret := (some .int)) (by decide) rfl (Nat.le_of_ble_eq_true rfl) (fun p e s m args below meth c Q ls hQ hx hb hr hml hts hown hlk hin hK hZ hN hW hS hl => ?_)
  have hown : s.vm.findClass RX5 = some m.cls := hown
  have hW : k_H g ad t s.heap := hW
  have hl : lv_has ls 4 [(0, .ref (ad 9 0)), (1, .int (nI j))] := hl
  have hinX5 : ∀ w ∈ wsX50, w ∈ wsX5_damage := by decide +kernel
  refine lv_aload_n hx hb dX5_damage_0 rfl (lv_at hl 0 rfl) ?_
  refine lv_aload_n hx hb dX5_damage_1 rfl (lv_at hl 0 rfl) ?_
  refine lv_iload_n hx hb dX5_damage_2 rfl (lv_at hl 1 rfl) ?_
  refine k_ci (va_runV (As := [.int (nI j)]) (rest := [.ref (ad 9 0)]) ⟨hx, hb, hml, hown, hts⟩ (c_X5_isCopy l hlt g ad t j hs hmt hm60) (cwV 1 hts gX5_damage_X5_isCopy rfl rfl rfl (by decide +kernel) ⟨(Nat.le_of_ble_eq_true rfl), (Nat.le_of_ble_eq_true rfl)⟩) ⟨k_blind, k_recv hK hW (kc_9 g ad t) rfl, fun U hU hw => ⟨rfl, k_I.of hK hZ hN hS hW hU hw⟩⟩ rfl rfl hl.1 rfl (lv_room (Nat.le_of_ble_eq_true rfl)) dX5_damage_3 ⟨(Nat.le_of_ble_eq_true rfl), (Nat.le_of_ble_eq_true rfl)⟩) hS (fun r u H locs hpo hW hS => ?_)
  obtain ⟨hr9, hu9⟩ := hpo; replace hu9 := hu9.symm; subst hu9; replace hr9 := hr9.symm; subst hr9
  refine lv_iconst (v := nI 1) hx hb dX5_damage_6 (by decide) ?_
  refine lv_iconst (v := nI 1) hx hb dX5_damage_7 (by decide) ?_
  refine k_ci (va_runV (As := [.int (nI 1), .int (nI 1), .int (nI 1)]) (rest := []) ⟨hx, hb, hml, hown, hts⟩ (c_X5_goes_0 l hlt g ad t ) (cwV 3 hts gX5_damage_X5_goes rfl rfl rfl (by decide +kernel) ⟨(Nat.le_of_ble_eq_true rfl), (Nat.le_of_ble_eq_true rfl)⟩) ⟨k_blind, k_recv hK hW (kc_9 g ad t) rfl, fun U hU hw => ⟨rfl, k_I.of hK hZ hN hS hW hU hw⟩⟩ rfl rfl hl.1 rfl (lv_room (Nat.le_of_ble_eq_true rfl)) dX5_damage_8 ⟨(Nat.le_of_ble_eq_true rfl), (Nat.le_of_ble_eq_true rfl)⟩) hS (fun r u H locs hpo hW hS => ?_)
  obtain ⟨hr9, hu9⟩ := hpo; replace hu9 := hu9.symm; subst hu9; replace hr9 := hr9.symm; subst hr9
  have hW : k_H g ad (set_m_l t 0) H := hW
  refine lv_if_ne (tgt := 16) hx hb dX5_damage_11 (by decide) (fun h_11 => ?_) (fun h_11 => absurd h_11 (by decide))
  refine lv_aload_n hx hb dX5_damage_16 rfl (lv_at hl 0 rfl) ?_
  refine k_get (own := RX5) (C := RX5) (T := TX5) (N := 21) hx hb hts hinX5 hown hK hW (kc_9 g ad (set_m_l t 0)) rfl 10 (by decide) (hts (.fieldLink RX5 35 "DrillVaultModel" "damaged" "[Z") (by decide +kernel)) rfl (v := .ref (ad 18 0)) rfl dX5_damage_17 ?_
  refine lv_iload_n hx hb dX5_damage_20 rfl (lv_at hl 1 rfl) ?_
  refine lv_iconst (v := nI 1) hx hb dX5_damage_21 (by decide) ?_
  refine k_zast hx hb hK hW hS (kc_18 g ad (set_m_l t 0)) rfl j rfl (by omega) (by decide) dX5_damage_22 (fun H locs hW hS => ?_)
  have hW : k_H g ad (set_m_dm (set_m_l t 0) (va_up (m_dm t) j true)) H := kt_m_dm (t := set_m_l t 0) j true rfl hW
  refine lv_aload_n hx hb dX5_damage_23 rfl (lv_at hl 0 rfl) ?_
  refine k_get (own := RX5) (C := RX5) (T := TX5) (N := 21) hx hb hts hinX5 hown hK hW (kc_9 g ad (set_m_dm (set_m_l t 0) (va_up (m_dm t) j true))) rfl 11 (by decide) (hts (.fieldLink RX5 38 "DrillVaultModel" "proved" "[Z") (by decide +kernel)) rfl (v := .ref (ad 19 0)) rfl dX5_damage_24 ?_
  refine lv_iload_n hx hb dX5_damage_27 rfl (lv_at hl 1 rfl) ?_
  refine lv_iconst (v := nI 0) hx hb dX5_damage_28 (by decide) ?_
  refine k_zast hx hb hK hW hS (kc_19 g ad (set_m_dm (set_m_l t 0) (va_up (m_dm t) j true))) rfl j rfl (by omega) (by decide) dX5_damage_29 (fun H locs hW hS => ?_)
  have hW : k_H g ad (set_m_pv (set_m_dm (set_m_l t 0) (va_up (m_dm t) j true)) (va_up (m_pv t) j false)) H := kt_m_pv (t := set_m_dm (set_m_l t 0) (va_up (m_dm t) j true)) j false rfl hW
  refine lv_iconst (v := nI 0) hx hb dX5_damage_30 (by decide) ?_
  refine lv_istore_n (lv' := [(2, .int (nI 0)), (0, .ref (ad 9 0)), (1, .int (nI j))]) hx hb dX5_damage_31 rfl hl (by decide) rfl (fun ls hl => ?_)
  refine lv_aload_n hx hb dX5_damage_32 rfl (lv_at hl 1 rfl) ?_
  refine k_ci (va_runV (As := []) (rest := []) ⟨hx, hb, hml, hown, hts⟩ (c_X5_marks l hlt g ad (set_m_pv (set_m_dm (set_m_l t 0) (va_up (m_dm t) j true)) (va_up (m_pv t) j false)) hm60 hmb hmo hr1 hr2 hr3) (cwV 0 hts gX5_damage_X5_marks rfl rfl rfl (by decide +kernel) ⟨(Nat.le_of_ble_eq_true rfl), (Nat.le_of_ble_eq_true rfl)⟩) ⟨k_blind, k_recv hK hW (kc_9 g ad (set_m_pv (set_m_dm (set_m_l t 0) (va_up (m_dm t) j true)) (va_up (m_pv t) j false))) rfl, fun U hU hw => ⟨rfl, k_I.of hK hZ hN hS hW hU hw⟩⟩ rfl rfl hl.1 rfl (lv_room (Nat.le_of_ble_eq_true rfl)) dX5_damage_33 ⟨(Nat.le_of_ble_eq_true rfl), (Nat.le_of_ble_eq_true rfl)⟩) hS (fun r u H locs hpo hW hS => ?_)
  obtain ⟨hr9, hu9⟩ := hpo; replace hu9 := hu9.symm; subst hu9; replace hr9 := hr9.symm; subst hr9
  have hW : k_H g ad (set_m_nd (set_m_pm (set_m_pv (set_m_dm (set_m_l t 0) (va_up (m_dm t) j true)) (va_up (m_pv t) j false)) (k_PmM (m_md t) (m_th t) (m_pm t) (m_on t) (m_r1 t) (m_r2 t) (m_r3 t))) (k_NmM (m_md t) (m_nd t) (k_PmM (m_md t) (m_th t) (m_pm t) (m_on t) (m_r1 t) (m_r2 t) (m_r3 t)) (m_b t))) H := hW
  refine lv_pop hx hb dX5_damage_36 rfl ?_
  refine lv_iconst (v := nI 0) hx hb dX5_damage_37 (by decide) ?_
  refine lv_istore_n (lv' := [(3, .int (nI 0)), (2, .int (nI 0)), (0, .ref (ad 9 0)), (1, .int (nI j))]) hx hb dX5_damage_38 rfl hl (by decide) rfl (fun ls hl => ?_)
  have hloop_39 : ∀ (n : Nat) (i : Nat) (cn : Nat), (m_md t < i + n) → (i ≤ m_md t) → (cn = k_cb (fun k => (k_PmM (m_md t) (m_th t) (m_pm t) (m_on t) (m_r1 t) (m_r2 t) (m_r3 t)) k && (k_cl (m_b t) k).any (va_up (m_dm t) j true)) i) → ∀ (H : Heap) (locs : List Loc), k_H g ad (set_m_nd (set_m_pm (set_m_pv (set_m_dm (set_m_l t 0) (va_up (m_dm t) j true)) (va_up (m_pv t) j false)) (k_PmM (m_md t) (m_th t) (m_pm t) (m_on t) (m_r1 t) (m_r2 t) (m_r3 t))) (k_NmM (m_md t) (m_nd t) (k_PmM (m_md t) (m_th t) (m_pm t) (m_on t) (m_r1 t) (m_r2 t) (m_r3 t)) (m_b t))) H → va_S (k_A g) s.heap H locs → ∀ (ls : Array Slot), lv_has ls 4 [(0, .ref (ad 9 0)), (2, .int (nI cn)), (3, .int (nI i))] → W p l e rm_X5_damage s m args below meth c H locs 0 0 Q (F0 m 39 ls []) := by
    intro n
    induction n with
    | zero =>
      intro i cn hfu hi hcn
      exact absurd hfu (by omega)
    | succ n ih =>
      intro i cn hfu hi hcn H locs hW hS ls hl
      refine lv_iload_n hx hb dX5_damage_39 rfl (lv_at hl 2 rfl) ?_
      refine lv_aload_n hx hb dX5_damage_40 rfl (lv_at hl 0 rfl) ?_
      refine k_get (own := RX5) (C := RX5) (T := TX5) (N := 21) hx hb hts hinX5 hown hK hW (kc_9 g ad (set_m_nd (set_m_pm (set_m_pv (set_m_dm (set_m_l t 0) (va_up (m_dm t) j true)) (va_up (m_pv t) j false)) (k_PmM (m_md t) (m_th t) (m_pm t) (m_on t) (m_r1 t) (m_r2 t) (m_r3 t))) (k_NmM (m_md t) (m_nd t) (k_PmM (m_md t) (m_th t) (m_pm t) (m_on t) (m_r1 t) (m_r2 t) (m_r3 t)) (m_b t)))) rfl 12 (by decide) (hts (.fieldLink RX5 66 "DrillVaultModel" "made" "I") (by decide +kernel)) rfl (v := .int (nI (m_md t))) rfl dX5_damage_41 ?_
      refine k_icmp_ge (tgt := 78) hx hb (a := i) (b := m_md t) (by omega) (by omega) dX5_damage_44 (by decide) (fun h_44 => ?_) (fun h_44 => ?_)
      · refine lv_iload_n hx hb dX5_damage_78 rfl (lv_at hl 1 rfl) ?_
        exact k_ri hQ hx hb hr hlk hS hW ⟨by rw [hcn, show i = m_md t by omega], rfl⟩ (Nat.le_of_ble_eq_true rfl) (Nat.le_of_ble_eq_true rfl) dX5_damage_79
      · refine lv_iload_n hx hb dX5_damage_47 rfl (lv_at hl 1 rfl) ?_
        refine lv_aload_n hx hb dX5_damage_48 rfl (lv_at hl 0 rfl) ?_
        refine k_get (own := RX5) (C := RX5) (T := TX5) (N := 21) hx hb hts hinX5 hown hK hW (kc_9 g ad (set_m_nd (set_m_pm (set_m_pv (set_m_dm (set_m_l t 0) (va_up (m_dm t) j true)) (va_up (m_pv t) j false)) (k_PmM (m_md t) (m_th t) (m_pm t) (m_on t) (m_r1 t) (m_r2 t) (m_r3 t))) (k_NmM (m_md t) (m_nd t) (k_PmM (m_md t) (m_th t) (m_pm t) (m_on t) (m_r1 t) (m_r2 t) (m_r3 t)) (m_b t)))) rfl 16 (by decide) (hts (.fieldLink RX5 51 "DrillVaultModel" "promised" "[Z") (by decide +kernel)) rfl (v := .ref (ad 20 0)) rfl dX5_damage_49 ?_
        refine lv_iload_n hx hb dX5_damage_52 rfl (lv_at hl 2 rfl) ?_
        refine k_zald hx hb hK hW (kc_20 g ad (set_m_nd (set_m_pm (set_m_pv (set_m_dm (set_m_l t 0) (va_up (m_dm t) j true)) (va_up (m_pv t) j false)) (k_PmM (m_md t) (m_th t) (m_pm t) (m_on t) (m_r1 t) (m_r2 t) (m_r3 t))) (k_NmM (m_md t) (m_nd t) (k_PmM (m_md t) (m_th t) (m_pm t) (m_on t) (m_r1 t) (m_r2 t) (m_r3 t)) (m_b t)))) i rfl (by omega) (by decide) dX5_damage_53 ?_
        refine k_tov (y := .int (kb ((k_PmM (m_md t) (m_th t) (m_pm t) (m_on t) (m_r1 t) (m_r2 t) (m_r3 t)) i))) rfl ?_
        refine k_ifz_eq (tgt := 69) hx hb dX5_damage_54 (by decide) (fun h_54 => ?_) (fun h_54 => ?_)
        · refine lv_iconst (v := nI 0) hx hb dX5_damage_69 (by decide) ?_
          refine k_iadd hx hb dX5_damage_70 ?_
          refine lv_istore_n (lv' := [(2, .int (nI (cn + 0))), (0, .ref (ad 9 0)), (3, .int (nI i))]) hx hb dX5_damage_71 rfl hl (by decide) rfl (fun ls hl => ?_)
          refine lv_iinc (v := nI (i + 1)) (lv' := [(3, .int (nI (i + 1))), (2, .int (nI (cn + 0))), (0, .ref (ad 9 0))]) hx hb dX5_damage_72 hl (k := 2) rfl (nI_add _ _) (by decide) rfl (fun ls hl => ?_)
          refine lv_goto (tgt := 39) hx hb dX5_damage_75 (by decide) ?_
          exact ih (i + 1) (cn + 0) (by omega) (by omega) (by rw [k_cb_n (show (k_PmM _ _ _ _ _ _ _ i && _) = false by rw [h_54]; rfl), hcn, Nat.add_zero]) _ _ hW hS _ (lv_sub hl [2, 1, 0] rfl)
        · refine lv_aload_n hx hb dX5_damage_57 rfl (lv_at hl 0 rfl) ?_
          refine lv_iload_n hx hb dX5_damage_58 rfl (lv_at hl 2 rfl) ?_
          refine k_ci (va_runV (As := [.int (nI i)]) (rest := [.int (nI cn)]) ⟨hx, hb, hml, hown, hts⟩ (c_X5_isBroken l hlt g ad (set_m_nd (set_m_pm (set_m_pv (set_m_dm (set_m_l t 0) (va_up (m_dm t) j true)) (va_up (m_pv t) j false)) (k_PmM (m_md t) (m_th t) (m_pm t) (m_on t) (m_r1 t) (m_r2 t) (m_r3 t))) (k_NmM (m_md t) (m_nd t) (k_PmM (m_md t) (m_th t) (m_pm t) (m_on t) (m_r1 t) (m_r2 t) (m_r3 t)) (m_b t))) i (by omega) hm60 hmb) (cwV 1 hts gX5_damage_X5_isBroken rfl rfl rfl (by decide +kernel) ⟨(Nat.le_of_ble_eq_true rfl), (Nat.le_of_ble_eq_true rfl)⟩) ⟨k_blind, k_recv hK hW (kc_9 g ad (set_m_nd (set_m_pm (set_m_pv (set_m_dm (set_m_l t 0) (va_up (m_dm t) j true)) (va_up (m_pv t) j false)) (k_PmM (m_md t) (m_th t) (m_pm t) (m_on t) (m_r1 t) (m_r2 t) (m_r3 t))) (k_NmM (m_md t) (m_nd t) (k_PmM (m_md t) (m_th t) (m_pm t) (m_on t) (m_r1 t) (m_r2 t) (m_r3 t)) (m_b t)))) rfl, fun U hU hw => ⟨rfl, k_I.of hK hZ hN hS hW hU hw⟩⟩ rfl rfl hl.1 rfl (lv_room (Nat.le_of_ble_eq_true rfl)) dX5_damage_59 ⟨(Nat.le_of_ble_eq_true rfl), (Nat.le_of_ble_eq_true rfl)⟩) hS (fun r u H locs hpo hW hS => ?_)
          obtain ⟨hr9, hu9⟩ := hpo; replace hu9 := hu9.symm; subst hu9; replace hr9 := hr9.symm; subst hr9
          refine k_ifz_eq (tgt := 69) hx hb dX5_damage_62 (by decide) (fun h_62 => ?_) (fun h_62 => ?_)
          · refine lv_iconst (v := nI 0) hx hb dX5_damage_69 (by decide) ?_
            refine k_iadd hx hb dX5_damage_70 ?_
            refine lv_istore_n (lv' := [(2, .int (nI (cn + 0))), (0, .ref (ad 9 0)), (3, .int (nI i))]) hx hb dX5_damage_71 rfl hl (by decide) rfl (fun ls hl => ?_)
            refine lv_iinc (v := nI (i + 1)) (lv' := [(3, .int (nI (i + 1))), (2, .int (nI (cn + 0))), (0, .ref (ad 9 0))]) hx hb dX5_damage_72 hl (k := 2) rfl (nI_add _ _) (by decide) rfl (fun ls hl => ?_)
            refine lv_goto (tgt := 39) hx hb dX5_damage_75 (by decide) ?_
            exact ih (i + 1) (cn + 0) (by omega) (by omega) (by rw [k_cb_n (show (k_PmM _ _ _ _ _ _ _ i && _) = false by rw [h_54, h_62]; rfl), hcn, Nat.add_zero]) _ _ hW hS _ (lv_sub hl [2, 1, 0] rfl)
          · refine lv_iconst (v := nI 1) hx hb dX5_damage_65 (by decide) ?_
            refine lv_goto (tgt := 70) hx hb dX5_damage_66 (by decide) ?_
            refine k_iadd hx hb dX5_damage_70 ?_
            refine lv_istore_n (lv' := [(2, .int (nI (cn + 1))), (0, .ref (ad 9 0)), (3, .int (nI i))]) hx hb dX5_damage_71 rfl hl (by decide) rfl (fun ls hl => ?_)
            refine lv_iinc (v := nI (i + 1)) (lv' := [(3, .int (nI (i + 1))), (2, .int (nI (cn + 1))), (0, .ref (ad 9 0))]) hx hb dX5_damage_72 hl (k := 2) rfl (nI_add _ _) (by decide) rfl (fun ls hl => ?_)
            refine lv_goto (tgt := 39) hx hb dX5_damage_75 (by decide) ?_
            exact ih (i + 1) (cn + 1) (by omega) (by omega) (by rw [k_cb_y (show (k_PmM _ _ _ _ _ _ _ i && _) = true by rw [h_54, h_62]; rfl), hcn, Nat.add_zero]) _ _ hW hS _ (lv_sub hl [2, 1, 0] rfl)
  exact hloop_39 (m_md t + 1) 0 0 (by omega) (by omega) rfl _ _ hW hS _ (lv_sub hl [2, 1, 0] rfl)
abbrev rm_X5_drill : Room := { frames := 2, cells := 0, slots := 0, locals := 43 }
set_option maxRecDepth 100000 in
set_option maxHeartbeats 4000000 in
theorem c_X5_drill_b (l : Launch) (hlt : l.stackTraces = false) (g : k_g) (ad : k_AD) (t : k_T) (z : Int32) (hz : z < 0 ∨ nI 60 ≤ z ∨ ∃ j, j < 60 ∧ z = nI j ∧ m_th t j = false) (hm60 : m_md t ≤ 60) : Met l yX5_drill wsX5_drill rm_X5_drill (va_Pc [.ref (ad 9 0), .int z] (k_I g (k_ct g ad t) ad)) (va_Qi (fun r u => r = nI 0 ∧ u = set_m_l t 1) (fun u U => k_H g ad u U.heap) (k_A g)) 0 0 (k_A g) := by
  refine k_met (cc := cX5_drill) (maxL := 5) (ret := (some .int)) (by decide) rfl (Nat.le_of_ble_eq_true rfl) (fun p e s m args below meth c Q ls hQ hx hb hr hml hts hown hlk hin hK hZ hN hW hS hl => ?_)
  have hown : s.vm.findClass RX5 = some m.cls := hown
  have hW : k_H g ad t s.heap := hW
  have hl : lv_has ls 5 [(0, .ref (ad 9 0)), (1, .int z)] := hl
  refine lv_aload_n hx hb dX5_drill_0 rfl (lv_at hl 0 rfl) ?_
  refine lv_aload_n hx hb dX5_drill_1 rfl (lv_at hl 0 rfl) ?_
  refine lv_iload_n hx hb dX5_drill_2 rfl (lv_at hl 1 rfl) ?_
  refine k_ci (va_runV (As := [.int z]) (rest := [.ref (ad 9 0)]) ⟨hx, hb, hml, hown, hts⟩ (c_X5_isCopy_b l hlt g ad t z hz hm60) (cwV 1 hts gX5_drill_X5_isCopy rfl rfl rfl (by decide +kernel) ⟨(Nat.le_of_ble_eq_true rfl), (Nat.le_of_ble_eq_true rfl)⟩) ⟨k_blind, k_recv hK hW (kc_9 g ad t) rfl, fun U hU hw => ⟨rfl, k_I.of hK hZ hN hS hW hU hw⟩⟩ rfl rfl hl.1 rfl (lv_room (Nat.le_of_ble_eq_true rfl)) dX5_drill_3 ⟨(Nat.le_of_ble_eq_true rfl), (Nat.le_of_ble_eq_true rfl)⟩) hS (fun r u H locs hpo hW hS => ?_)
  obtain ⟨hr9, hu9⟩ := hpo; replace hu9 := hu9.symm; subst hu9; replace hr9 := hr9.symm; subst hr9
  refine lv_iconst (v := nI 1) hx hb dX5_drill_6 (by decide) ?_
  refine lv_iconst (v := nI 1) hx hb dX5_drill_7 (by decide) ?_
  refine k_ci (va_runV (As := [.int (nI 0), .int (nI 1), .int (nI 1)]) (rest := []) ⟨hx, hb, hml, hown, hts⟩ (c_X5_goes_1 l hlt g ad t (nI 1) (nI 1) ) (cwV 3 hts gX5_drill_X5_goes rfl rfl rfl (by decide +kernel) ⟨(Nat.le_of_ble_eq_true rfl), (Nat.le_of_ble_eq_true rfl)⟩) ⟨k_blind, k_recv hK hW (kc_9 g ad t) rfl, fun U hU hw => ⟨rfl, k_I.of hK hZ hN hS hW hU hw⟩⟩ rfl rfl hl.1 rfl (lv_room (Nat.le_of_ble_eq_true rfl)) dX5_drill_8 ⟨(Nat.le_of_ble_eq_true rfl), (Nat.le_of_ble_eq_true rfl)⟩) hS (fun r u H locs hpo hW hS => ?_)
  obtain ⟨hr9, hu9⟩ := hpo; replace hu9 := hu9.symm; subst hu9; replace hr9 := hr9.symm; subst hr9
  have hW : k_H g ad (set_m_l t 1) H := hW
  refine lv_if_ne (tgt := 16) hx hb dX5_drill_11 (by decide) (fun h_11 => absurd h_11 (by decide)) (fun h_11 => ?_)
  refine lv_iconst (v := nI 0) hx hb dX5_drill_14 (by decide) ?_
  exact k_ri hQ hx hb hr hlk hS hW ⟨rfl, rfl⟩ (Nat.le_of_ble_eq_true rfl) (Nat.le_of_ble_eq_true rfl) dX5_drill_15
set_option maxRecDepth 100000 in
set_option maxHeartbeats 4000000 in
theorem c_X5_drill_ok (l : Launch) (hlt : l.stackTraces = false) (g : k_g) (ad : k_AD) (t : k_T) (j : Nat) (hj : j < 60) (hs : m_th t j = true) (hmt : ∀ j, m_th t j = true → j < m_md t) (hm60 : m_md t ≤ 60) (hmb : ∀ k b, k < m_md t → m_b t k = some b → b < k) (ha : (k_cl (m_b t) j).any (m_dm t) = false) : Met l yX5_drill wsX5_drill rm_X5_drill (va_Pc [.ref (ad 9 0), .int (nI j)] (k_I g (k_ct g ad t) ad)) (va_Qi (fun r u => r = nI ((k_cl (m_b t) j).length) ∧ u = set_m_pv (set_m_l t 0) (fun j9 => if (k_cl (m_b t) j).contains j9 = true then true else (m_pv t) j9)) (fun u U => k_H g ad u U.heap) (k_A g)) 0 0 (k_A g) := by
  refine k_met (cc := cX5_drill) (maxL := 5) (ret := (some .int)) (by decide) rfl (Nat.le_of_ble_eq_true rfl) (fun p e s m args below meth c Q ls hQ hx hb hr hml hts hown hlk hin hK hZ hN hW hS hl => ?_)
  have hown : s.vm.findClass RX5 = some m.cls := hown
  have hW : k_H g ad t s.heap := hW
  have hl : lv_has ls 5 [(0, .ref (ad 9 0)), (1, .int (nI j))] := hl
  have hinX5 : ∀ w ∈ wsX50, w ∈ wsX5_drill := by decide +kernel
  refine lv_aload_n hx hb dX5_drill_0 rfl (lv_at hl 0 rfl) ?_
  refine lv_aload_n hx hb dX5_drill_1 rfl (lv_at hl 0 rfl) ?_
  refine lv_iload_n hx hb dX5_drill_2 rfl (lv_at hl 1 rfl) ?_
  refine k_ci (va_runV (As := [.int (nI j)]) (rest := [.ref (ad 9 0)]) ⟨hx, hb, hml, hown, hts⟩ (c_X5_isCopy l hlt g ad t j hs hmt hm60) (cwV 1 hts gX5_drill_X5_isCopy rfl rfl rfl (by decide +kernel) ⟨(Nat.le_of_ble_eq_true rfl), (Nat.le_of_ble_eq_true rfl)⟩) ⟨k_blind, k_recv hK hW (kc_9 g ad t) rfl, fun U hU hw => ⟨rfl, k_I.of hK hZ hN hS hW hU hw⟩⟩ rfl rfl hl.1 rfl (lv_room (Nat.le_of_ble_eq_true rfl)) dX5_drill_3 ⟨(Nat.le_of_ble_eq_true rfl), (Nat.le_of_ble_eq_true rfl)⟩) hS (fun r u H locs hpo hW hS => ?_)
  obtain ⟨hr9, hu9⟩ := hpo; replace hu9 := hu9.symm; subst hu9; replace hr9 := hr9.symm; subst hr9
  refine lv_iconst (v := nI 1) hx hb dX5_drill_6 (by decide) ?_
  refine lv_iconst (v := nI 1) hx hb dX5_drill_7 (by decide) ?_
  refine k_ci (va_runV (As := [.int (nI 1), .int (nI 1), .int (nI 1)]) (rest := []) ⟨hx, hb, hml, hown, hts⟩ (c_X5_goes_0 l hlt g ad t ) (cwV 3 hts gX5_drill_X5_goes rfl rfl rfl (by decide +kernel) ⟨(Nat.le_of_ble_eq_true rfl), (Nat.le_of_ble_eq_true rfl)⟩) ⟨k_blind, k_recv hK hW (kc_9 g ad t) rfl, fun U hU hw => ⟨rfl, k_I.of hK hZ hN hS hW hU hw⟩⟩ rfl rfl hl.1 rfl (lv_room (Nat.le_of_ble_eq_true rfl)) dX5_drill_8 ⟨(Nat.le_of_ble_eq_true rfl), (Nat.le_of_ble_eq_true rfl)⟩) hS (fun r u H locs hpo hW hS => ?_)
  obtain ⟨hr9, hu9⟩ := hpo; replace hu9 := hu9.symm; subst hu9; replace hr9 := hr9.symm; subst hr9
  have hW : k_H g ad (set_m_l t 0) H := hW
  refine lv_if_ne (tgt := 16) hx hb dX5_drill_11 (by decide) (fun h_11 => ?_) (fun h_11 => absurd h_11 (by decide))
  refine lv_aload_n hx hb dX5_drill_16 rfl (lv_at hl 0 rfl) ?_
  refine lv_iload_n hx hb dX5_drill_17 rfl (lv_at hl 1 rfl) ?_
  refine k_ci (va_runV (As := [.int (nI j)]) (rest := []) ⟨hx, hb, hml, hown, hts⟩ (c_X5_isBroken l hlt g ad (set_m_l t 0) j (hmt _ hs) hm60 hmb) (cwV 1 hts gX5_drill_X5_isBroken rfl rfl rfl (by decide +kernel) ⟨(Nat.le_of_ble_eq_true rfl), (Nat.le_of_ble_eq_true rfl)⟩) ⟨k_blind, k_recv hK hW (kc_9 g ad (set_m_l t 0)) rfl, fun U hU hw => ⟨rfl, k_I.of hK hZ hN hS hW hU hw⟩⟩ rfl rfl hl.1 rfl (lv_room (Nat.le_of_ble_eq_true rfl)) dX5_drill_18 ⟨(Nat.le_of_ble_eq_true rfl), (Nat.le_of_ble_eq_true rfl)⟩) hS (fun r u H locs hpo hW hS => ?_)
  obtain ⟨hr9, hu9⟩ := hpo; replace hu9 := hu9.symm; subst hu9; replace hr9 := hr9.symm; subst hr9
  refine lv_istore_n (lv' := [(2, .int (kb ((k_cl (m_b t) j).any (m_dm t)))), (0, .ref (ad 9 0)), (1, .int (nI j))]) hx hb dX5_drill_21 rfl hl (by decide) rfl (fun ls hl => ?_)
  refine lv_iconst (v := nI 0) hx hb dX5_drill_22 (by decide) ?_
  refine lv_istore_n (lv' := [(3, .int (nI 0)), (2, .int (kb ((k_cl (m_b t) j).any (m_dm t)))), (0, .ref (ad 9 0)), (1, .int (nI j))]) hx hb dX5_drill_23 rfl hl (by decide) rfl (fun ls hl => ?_)
  refine lv_iload_n hx hb dX5_drill_24 rfl (lv_at hl 3 rfl) ?_
  refine lv_istore (lv' := [(4, .int (nI j)), (3, .int (nI 0)), (2, .int (kb ((k_cl (m_b t) j).any (m_dm t)))), (0, .ref (ad 9 0)), (1, .int (nI j))]) hx hb dX5_drill_25 hl (by decide) rfl (fun ls hl => ?_)
  have hloop_27 : ∀ (n : Nat) (cur : Option Nat) (cn : Nat) (PV : Nat → Bool), (0 < n) → (∀ q, cur = some q → q + 1 < n ∧ q < m_md t) → ((k_cl (m_b t) j).length = cn + (k_clo (m_b t) cur).length) → (∀ q, (fun q => if (k_cl (m_b t) j).contains q = true then true else m_pv t q) q = if (k_clo (m_b t) cur).contains q = true then true else PV q) → ∀ (H : Heap) (locs : List Loc), k_H g ad (set_m_pv (set_m_l t 0) PV) H → va_S (k_A g) s.heap H locs → ∀ (ls : Array Slot), lv_has ls 5 [(0, .ref (ad 9 0)), (2, .int (kb ((k_cl (m_b t) j).any (m_dm t)))), (3, .int (nI cn)), (4, .int (kO cur))] → W p l e rm_X5_drill s m args below meth c H locs 0 0 Q (F0 m 27 ls []) := by
    intro n
    induction n with
    | zero =>
      intro cur cn PV hfu2 hck hlen hz
      exact absurd hfu2 (by omega)
    | succ n ih =>
      intro cur cn PV hfu2 hck hlen hz H locs hW hS ls hl
      rcases cur with _ | k
      · have hl : lv_has ls 5 [(0, .ref (ad 9 0)), (2, .int (kb ((k_cl (m_b t) j).any (m_dm t)))), (3, .int (nI cn)), (4, .int (-1))] := hl
        refine lv_iload hx hb dX5_drill_27 (lv_at hl 3 rfl) ?_
        refine lv_iconst (v := (-1)) hx hb dX5_drill_29 (by decide) ?_
        refine lv_icmp_eq (tgt := 64) hx hb dX5_drill_30 (by decide) (fun h_30 => ?_) (fun h_30 => absurd rfl h_30)
        refine lv_iload_n hx hb dX5_drill_64 rfl (lv_at hl 1 rfl) ?_
        refine k_ifz_eq (tgt := 72) hx hb dX5_drill_65 (by decide) (fun h_65 => ?_) (fun h_65 => absurd h_65 (fun q => absurd (ha.symm.trans q) (by decide)))
        refine lv_iload_n hx hb dX5_drill_72 rfl (lv_at hl 2 rfl) ?_
        exact k_ri hQ hx hb hr hlk hS hW ⟨by rw [hlen]; rfl, by rw [show PV = (fun q => if (k_cl (m_b t) j).contains q = true then true else m_pv t q) from funext fun q => (hz q).symm]⟩ (Nat.le_of_ble_eq_true rfl) (Nat.le_of_ble_eq_true rfl) dX5_drill_73
      · have hl : lv_has ls 5 [(0, .ref (ad 9 0)), (2, .int (kb ((k_cl (m_b t) j).any (m_dm t)))), (3, .int (nI cn)), (4, .int (nI k))] := hl
        have hkm : k < m_md t := (hck _ rfl).2
        have hdk : ∀ b, m_b t k = some b → b < k := fun b hb => hmb _ _ hkm hb
        rw [k_clo_some hdk] at hz hlen
        refine lv_iload hx hb dX5_drill_27 (lv_at hl 3 rfl) ?_
        refine lv_iconst (v := (-1)) hx hb dX5_drill_29 (by decide) ?_
        refine lv_icmp_eq (tgt := 64) hx hb dX5_drill_30 (by decide) (fun h_30 => absurd h_30 (k_nm1 (by omega))) (fun h_30 => ?_)
        refine lv_aload_n hx hb dX5_drill_33 rfl (lv_at hl 0 rfl) ?_
        refine k_get (own := RX5) (C := RX5) (T := TX5) (N := 21) hx hb hts hinX5 hown hK hW (kc_9 g ad (set_m_pv (set_m_l t 0) PV)) rfl 11 (by decide) (hts (.fieldLink RX5 38 "DrillVaultModel" "proved" "[Z") (by decide +kernel)) rfl (v := .ref (ad 19 0)) rfl dX5_drill_34 ?_
        refine lv_iload hx hb dX5_drill_37 (lv_at hl 3 rfl) ?_
        refine lv_iload_n hx hb dX5_drill_39 rfl (lv_at hl 1 rfl) ?_
        refine k_ifz_ne (tgt := 47) hx hb dX5_drill_40 (by decide) (fun h_40 => absurd h_40 (fun q => absurd (ha.symm.trans q) (by decide))) (fun h_40 => ?_)
        refine lv_iconst (v := nI 1) hx hb dX5_drill_43 (by decide) ?_
        refine lv_goto (tgt := 48) hx hb dX5_drill_44 (by decide) ?_
        refine k_zast hx hb hK hW hS (kc_19 g ad (set_m_pv (set_m_l t 0) PV)) rfl k rfl (by omega) (by decide) dX5_drill_48 (fun H locs hW hS => ?_)
        have hW : k_H g ad (set_m_pv (set_m_l t 0) (va_up PV k true)) H := kt_m_pv (t := set_m_pv (set_m_l t 0) PV) k true rfl hW
        refine lv_iinc (v := nI (cn + 1)) (lv' := [(3, .int (nI (cn + 1))), (0, .ref (ad 9 0)), (2, .int (kb ((k_cl (m_b t) j).any (m_dm t)))), (4, .int (nI k))]) hx hb dX5_drill_49 hl (k := 2) rfl (nI_add _ _) (by decide) rfl (fun ls hl => ?_)
        refine lv_aload_n hx hb dX5_drill_52 rfl (lv_at hl 1 rfl) ?_
        refine k_get (own := RX5) (C := RX5) (T := TX5) (N := 21) hx hb hts hinX5 hown hK hW (kc_9 g ad (set_m_pv (set_m_l t 0) (va_up PV k true))) rfl 5 (by decide) (hts (.fieldLink RX5 19 "DrillVaultModel" "bases" "[I") (by decide +kernel)) rfl (v := .ref (ad 13 0)) rfl dX5_drill_53 ?_
        refine lv_iload hx hb dX5_drill_56 (lv_at hl 3 rfl) ?_
        refine k_iald hx hb hK hW (kc_13 g ad (set_m_pv (set_m_l t 0) (va_up PV k true))) k rfl (by omega) (by decide) dX5_drill_58 ?_
        refine lv_istore (lv' := [(4, .int (kO (m_b t k))), (3, .int (nI (cn + 1))), (0, .ref (ad 9 0)), (2, .int (kb ((k_cl (m_b t) j).any (m_dm t))))]) hx hb dX5_drill_59 hl (by decide) rfl (fun ls hl => ?_)
        refine lv_goto (tgt := 27) hx hb dX5_drill_61 (by decide) ?_
        exact ih (m_b t k) (cn + 1) (va_up PV k true) (by have := (hck _ rfl).1; omega) (fun q hq => by have h1 := (hck _ rfl).1; have h2 := hmb _ _ hkm hq; exact ⟨by omega, by omega⟩) (by rw [hlen, List.length_cons]; omega) (k_pv_step hz) _ _ hW hS _ (lv_sub hl [2, 3, 1, 0] rfl)
  exact hloop_27 (j + 2) (some j) 0 (m_pv t) (by omega) (fun q hq => by cases hq; exact ⟨by omega, (hmt _ hs)⟩) (Nat.zero_add _).symm (fun q => rfl) _ _ hW hS _ (lv_sub hl [3, 2, 1, 0] rfl)
set_option maxRecDepth 100000 in
set_option maxHeartbeats 4000000 in
theorem c_X5_drill_no (l : Launch) (hlt : l.stackTraces = false) (g : k_g) (ad : k_AD) (t : k_T) (j : Nat) (hj : j < 60) (hs : m_th t j = true) (hmt : ∀ j, m_th t j = true → j < m_md t) (hm60 : m_md t ≤ 60) (hmb : ∀ k b, k < m_md t → m_b t k = some b → b < k) (ha : (k_cl (m_b t) j).any (m_dm t) = true) : Met l yX5_drill wsX5_drill rm_X5_drill (va_Pc [.ref (ad 9 0), .int (nI j)] (k_I g (k_ct g ad t) ad)) (va_Qi (fun r u => r = (-1) ∧ u = set_m_pv (set_m_l t 0) (fun j9 => if (k_cl (m_b t) j).contains j9 = true then false else (m_pv t) j9)) (fun u U => k_H g ad u U.heap) (k_A g)) 0 0 (k_A g) := by
  refine k_met (cc := cX5_drill) (maxL := 5) (ret := (some .int)) (by decide) rfl (Nat.le_of_ble_eq_true rfl) (fun p e s m args below meth c Q ls hQ hx hb hr hml hts hown hlk hin hK hZ hN hW hS hl => ?_)
  have hown : s.vm.findClass RX5 = some m.cls := hown
  have hW : k_H g ad t s.heap := hW
  have hl : lv_has ls 5 [(0, .ref (ad 9 0)), (1, .int (nI j))] := hl
  have hinX5 : ∀ w ∈ wsX50, w ∈ wsX5_drill := by decide +kernel
  refine lv_aload_n hx hb dX5_drill_0 rfl (lv_at hl 0 rfl) ?_
  refine lv_aload_n hx hb dX5_drill_1 rfl (lv_at hl 0 rfl) ?_
  refine lv_iload_n hx hb dX5_drill_2 rfl (lv_at hl 1 rfl) ?_
  refine k_ci (va_runV (As := [.int (nI j)]) (rest := [.ref (ad 9 0)]) ⟨hx, hb, hml, hown, hts⟩ (c_X5_isCopy l hlt g ad t j hs hmt hm60) (cwV 1 hts gX5_drill_X5_isCopy rfl rfl rfl (by decide +kernel) ⟨(Nat.le_of_ble_eq_true rfl), (Nat.le_of_ble_eq_true rfl)⟩) ⟨k_blind, k_recv hK hW (kc_9 g ad t) rfl, fun U hU hw => ⟨rfl, k_I.of hK hZ hN hS hW hU hw⟩⟩ rfl rfl hl.1 rfl (lv_room (Nat.le_of_ble_eq_true rfl)) dX5_drill_3 ⟨(Nat.le_of_ble_eq_true rfl), (Nat.le_of_ble_eq_true rfl)⟩) hS (fun r u H locs hpo hW hS => ?_)
  obtain ⟨hr9, hu9⟩ := hpo; replace hu9 := hu9.symm; subst hu9; replace hr9 := hr9.symm; subst hr9
  refine lv_iconst (v := nI 1) hx hb dX5_drill_6 (by decide) ?_
  refine lv_iconst (v := nI 1) hx hb dX5_drill_7 (by decide) ?_
  refine k_ci (va_runV (As := [.int (nI 1), .int (nI 1), .int (nI 1)]) (rest := []) ⟨hx, hb, hml, hown, hts⟩ (c_X5_goes_0 l hlt g ad t ) (cwV 3 hts gX5_drill_X5_goes rfl rfl rfl (by decide +kernel) ⟨(Nat.le_of_ble_eq_true rfl), (Nat.le_of_ble_eq_true rfl)⟩) ⟨k_blind, k_recv hK hW (kc_9 g ad t) rfl, fun U hU hw => ⟨rfl, k_I.of hK hZ hN hS hW hU hw⟩⟩ rfl rfl hl.1 rfl (lv_room (Nat.le_of_ble_eq_true rfl)) dX5_drill_8 ⟨(Nat.le_of_ble_eq_true rfl), (Nat.le_of_ble_eq_true rfl)⟩) hS (fun r u H locs hpo hW hS => ?_)
  obtain ⟨hr9, hu9⟩ := hpo; replace hu9 := hu9.symm; subst hu9; replace hr9 := hr9.symm; subst hr9
  have hW : k_H g ad (set_m_l t 0) H := hW
  refine lv_if_ne (tgt := 16) hx hb dX5_drill_11 (by decide) (fun h_11 => ?_) (fun h_11 => absurd h_11 (by decide))
  refine lv_aload_n hx hb dX5_drill_16 rfl (lv_at hl 0 rfl) ?_
  refine lv_iload_n hx hb dX5_drill_17 rfl (lv_at hl 1 rfl) ?_
  refine k_ci (va_runV (As := [.int (nI j)]) (rest := []) ⟨hx, hb, hml, hown, hts⟩ (c_X5_isBroken l hlt g ad (set_m_l t 0) j (hmt _ hs) hm60 hmb) (cwV 1 hts gX5_drill_X5_isBroken rfl rfl rfl (by decide +kernel) ⟨(Nat.le_of_ble_eq_true rfl), (Nat.le_of_ble_eq_true rfl)⟩) ⟨k_blind, k_recv hK hW (kc_9 g ad (set_m_l t 0)) rfl, fun U hU hw => ⟨rfl, k_I.of hK hZ hN hS hW hU hw⟩⟩ rfl rfl hl.1 rfl (lv_room (Nat.le_of_ble_eq_true rfl)) dX5_drill_18 ⟨(Nat.le_of_ble_eq_true rfl), (Nat.le_of_ble_eq_true rfl)⟩) hS (fun r u H locs hpo hW hS => ?_)
  obtain ⟨hr9, hu9⟩ := hpo; replace hu9 := hu9.symm; subst hu9; replace hr9 := hr9.symm; subst hr9
  refine lv_istore_n (lv' := [(2, .int (kb ((k_cl (m_b t) j).any (m_dm t)))), (0, .ref (ad 9 0)), (1, .int (nI j))]) hx hb dX5_drill_21 rfl hl (by decide) rfl (fun ls hl => ?_)
  refine lv_iconst (v := nI 0) hx hb dX5_drill_22 (by decide) ?_
  refine lv_istore_n (lv' := [(3, .int (nI 0)), (2, .int (kb ((k_cl (m_b t) j).any (m_dm t)))), (0, .ref (ad 9 0)), (1, .int (nI j))]) hx hb dX5_drill_23 rfl hl (by decide) rfl (fun ls hl => ?_)
  refine lv_iload_n hx hb dX5_drill_24 rfl (lv_at hl 3 rfl) ?_
  refine lv_istore (lv' := [(4, .int (nI j)), (3, .int (nI 0)), (2, .int (kb ((k_cl (m_b t) j).any (m_dm t)))), (0, .ref (ad 9 0)), (1, .int (nI j))]) hx hb dX5_drill_25 hl (by decide) rfl (fun ls hl => ?_)
  have hloop_27 : ∀ (n : Nat) (cur : Option Nat) (cn : Nat) (PV : Nat → Bool), (0 < n) → (∀ q, cur = some q → q + 1 < n ∧ q < m_md t) → ((k_cl (m_b t) j).length = cn + (k_clo (m_b t) cur).length) → (∀ q, (fun q => if (k_cl (m_b t) j).contains q = true then false else m_pv t q) q = if (k_clo (m_b t) cur).contains q = true then false else PV q) → ∀ (H : Heap) (locs : List Loc), k_H g ad (set_m_pv (set_m_l t 0) PV) H → va_S (k_A g) s.heap H locs → ∀ (ls : Array Slot), lv_has ls 5 [(0, .ref (ad 9 0)), (2, .int (kb ((k_cl (m_b t) j).any (m_dm t)))), (3, .int (nI cn)), (4, .int (kO cur))] → W p l e rm_X5_drill s m args below meth c H locs 0 0 Q (F0 m 27 ls []) := by
    intro n
    induction n with
    | zero =>
      intro cur cn PV hfu2 hck hlen hz
      exact absurd hfu2 (by omega)
    | succ n ih =>
      intro cur cn PV hfu2 hck hlen hz H locs hW hS ls hl
      rcases cur with _ | k
      · have hl : lv_has ls 5 [(0, .ref (ad 9 0)), (2, .int (kb ((k_cl (m_b t) j).any (m_dm t)))), (3, .int (nI cn)), (4, .int (-1))] := hl
        refine lv_iload hx hb dX5_drill_27 (lv_at hl 3 rfl) ?_
        refine lv_iconst (v := (-1)) hx hb dX5_drill_29 (by decide) ?_
        refine lv_icmp_eq (tgt := 64) hx hb dX5_drill_30 (by decide) (fun h_30 => ?_) (fun h_30 => absurd rfl h_30)
        refine lv_iload_n hx hb dX5_drill_64 rfl (lv_at hl 1 rfl) ?_
        refine k_ifz_eq (tgt := 72) hx hb dX5_drill_65 (by decide) (fun h_65 => absurd h_65 (fun q => absurd (ha.symm.trans q) (by decide))) (fun h_65 => ?_)
        refine lv_iconst (v := (-1)) hx hb dX5_drill_68 (by decide) ?_
        refine lv_goto (tgt := 73) hx hb dX5_drill_69 (by decide) ?_
        exact k_ri hQ hx hb hr hlk hS hW ⟨by rfl, by rw [show PV = (fun q => if (k_cl (m_b t) j).contains q = true then false else m_pv t q) from funext fun q => (hz q).symm]⟩ (Nat.le_of_ble_eq_true rfl) (Nat.le_of_ble_eq_true rfl) dX5_drill_73
      · have hl : lv_has ls 5 [(0, .ref (ad 9 0)), (2, .int (kb ((k_cl (m_b t) j).any (m_dm t)))), (3, .int (nI cn)), (4, .int (nI k))] := hl
        have hkm : k < m_md t := (hck _ rfl).2
        have hdk : ∀ b, m_b t k = some b → b < k := fun b hb => hmb _ _ hkm hb
        rw [k_clo_some hdk] at hz hlen
        refine lv_iload hx hb dX5_drill_27 (lv_at hl 3 rfl) ?_
        refine lv_iconst (v := (-1)) hx hb dX5_drill_29 (by decide) ?_
        refine lv_icmp_eq (tgt := 64) hx hb dX5_drill_30 (by decide) (fun h_30 => absurd h_30 (k_nm1 (by omega))) (fun h_30 => ?_)
        refine lv_aload_n hx hb dX5_drill_33 rfl (lv_at hl 0 rfl) ?_
        refine k_get (own := RX5) (C := RX5) (T := TX5) (N := 21) hx hb hts hinX5 hown hK hW (kc_9 g ad (set_m_pv (set_m_l t 0) PV)) rfl 11 (by decide) (hts (.fieldLink RX5 38 "DrillVaultModel" "proved" "[Z") (by decide +kernel)) rfl (v := .ref (ad 19 0)) rfl dX5_drill_34 ?_
        refine lv_iload hx hb dX5_drill_37 (lv_at hl 3 rfl) ?_
        refine lv_iload_n hx hb dX5_drill_39 rfl (lv_at hl 1 rfl) ?_
        refine k_ifz_ne (tgt := 47) hx hb dX5_drill_40 (by decide) (fun h_40 => ?_) (fun h_40 => absurd h_40 (fun q => absurd (ha.symm.trans q) (by decide)))
        refine lv_iconst (v := nI 0) hx hb dX5_drill_47 (by decide) ?_
        refine k_zast hx hb hK hW hS (kc_19 g ad (set_m_pv (set_m_l t 0) PV)) rfl k rfl (by omega) (by decide) dX5_drill_48 (fun H locs hW hS => ?_)
        have hW : k_H g ad (set_m_pv (set_m_l t 0) (va_up PV k false)) H := kt_m_pv (t := set_m_pv (set_m_l t 0) PV) k false rfl hW
        refine lv_iinc (v := nI (cn + 1)) (lv' := [(3, .int (nI (cn + 1))), (0, .ref (ad 9 0)), (2, .int (kb ((k_cl (m_b t) j).any (m_dm t)))), (4, .int (nI k))]) hx hb dX5_drill_49 hl (k := 2) rfl (nI_add _ _) (by decide) rfl (fun ls hl => ?_)
        refine lv_aload_n hx hb dX5_drill_52 rfl (lv_at hl 1 rfl) ?_
        refine k_get (own := RX5) (C := RX5) (T := TX5) (N := 21) hx hb hts hinX5 hown hK hW (kc_9 g ad (set_m_pv (set_m_l t 0) (va_up PV k false))) rfl 5 (by decide) (hts (.fieldLink RX5 19 "DrillVaultModel" "bases" "[I") (by decide +kernel)) rfl (v := .ref (ad 13 0)) rfl dX5_drill_53 ?_
        refine lv_iload hx hb dX5_drill_56 (lv_at hl 3 rfl) ?_
        refine k_iald hx hb hK hW (kc_13 g ad (set_m_pv (set_m_l t 0) (va_up PV k false))) k rfl (by omega) (by decide) dX5_drill_58 ?_
        refine lv_istore (lv' := [(4, .int (kO (m_b t k))), (3, .int (nI (cn + 1))), (0, .ref (ad 9 0)), (2, .int (kb ((k_cl (m_b t) j).any (m_dm t))))]) hx hb dX5_drill_59 hl (by decide) rfl (fun ls hl => ?_)
        refine lv_goto (tgt := 27) hx hb dX5_drill_61 (by decide) ?_
        exact ih (m_b t k) (cn + 1) (va_up PV k false) (by have := (hck _ rfl).1; omega) (fun q hq => by have h1 := (hck _ rfl).1; have h2 := hmb _ _ hkm hq; exact ⟨by omega, by omega⟩) (by rw [hlen, List.length_cons]; omega) (k_pv_step hz) _ _ hW hS _ (lv_sub hl [2, 3, 1, 0] rfl)
  exact hloop_27 (j + 2) (some j) 0 (m_pv t) (by omega) (fun q hq => by cases hq; exact ⟨by omega, (hmt _ hs)⟩) (Nat.zero_add _).symm (fun q => rfl) _ _ hW hS _ (lv_sub hl [3, 2, 1, 0] rfl)
abbrev rm_X5_setRules : Room := { frames := 2, cells := 0, slots := 0, locals := 48 }
set_option maxRecDepth 100000 in
set_option maxHeartbeats 4000000 in
theorem c_X5_setRules_1b (l : Launch) (hlt : l.stackTraces = false) (g : k_g) (ad : k_AD) (t : k_T) (z : Int32) (y1 : Int32) (y2 : Int32) (hz : z < 0 ∨ nI 30 < z) : Met l yX5_setRules wsX5_setRules rm_X5_setRules (va_Pc [.ref (ad 9 0), .int z, .int y1, .int y2] (k_I g (k_ct g ad t) ad)) (va_Qi (fun r u => r = nI 0 ∧ u = set_m_l t 1) (fun u U => k_H g ad u U.heap) (k_A g)) 0 0 (k_A g) := by
  refine k_met (cc := cX5_setRules) (maxL := 4) (ret := (some .int)) (by decide) rfl (Nat.le_of_ble_eq_true rfl) (fun p e s m args below meth c Q ls hQ hx hb hr hml hts hown hlk hin hK hZ hN hW hS hl => ?_)
  have hown : s.vm.findClass RX5 = some m.cls := hown
  have hW : k_H g ad t s.heap := hW
  have hl : lv_has ls 4 [(0, .ref (ad 9 0)), (1, .int z), (2, .int y1), (3, .int y2)] := hl
  refine lv_aload_n hx hb dX5_setRules_0 rfl (lv_at hl 0 rfl) ?_
  refine lv_iload_n hx hb dX5_setRules_1 rfl (lv_at hl 1 rfl) ?_
  refine lv_iconst (v := nI 0) hx hb dX5_setRules_2 (by decide) ?_
  refine lv_bipush (v := nI 30) hx hb dX5_setRules_3 (by decide) ?_
  refine k_ci (va_runS (As := [.int z, .int (nI 0), .int (nI 30)]) (rest := [.ref (ad 9 0)]) ⟨hx, hb, hml, hown, hts⟩ (c_X5_in_f l hlt g ad t z (nI 0) (nI 30) (k_in_f hz)) (va_cwS 3 hts gX5_setRules_X5_in rfl rfl rfl (by decide +kernel) ⟨(Nat.le_of_ble_eq_true rfl), (Nat.le_of_ble_eq_true rfl)⟩) ⟨k_blind, fun U hU hw => ⟨rfl, k_I.of hK hZ hN hS hW hU hw⟩⟩ rfl rfl hl.1 rfl (lv_room (Nat.le_of_ble_eq_true rfl)) dX5_setRules_5 ⟨(Nat.le_of_ble_eq_true rfl), (Nat.le_of_ble_eq_true rfl)⟩) hS (fun r u H locs hpo hW hS => ?_)
  obtain ⟨hr9, hu9⟩ := hpo; replace hu9 := hu9.symm; subst hu9; replace hr9 := hr9.symm; subst hr9
  refine lv_if_eq (tgt := 35) hx hb dX5_setRules_8 (by decide) (fun h_8 => ?_) (fun h_8 => absurd h_8 (by decide))
  refine lv_iconst (v := nI 0) hx hb dX5_setRules_35 (by decide) ?_
  refine lv_iconst (v := nI 1) hx hb dX5_setRules_36 (by decide) ?_
  refine lv_iconst (v := nI 1) hx hb dX5_setRules_37 (by decide) ?_
  refine k_ci (va_runV (As := [.int (nI 0), .int (nI 1), .int (nI 1)]) (rest := []) ⟨hx, hb, hml, hown, hts⟩ (c_X5_goes_1 l hlt g ad t (nI 1) (nI 1) ) (cwV 3 hts gX5_setRules_X5_goes rfl rfl rfl (by decide +kernel) ⟨(Nat.le_of_ble_eq_true rfl), (Nat.le_of_ble_eq_true rfl)⟩) ⟨k_blind, k_recv hK hW (kc_9 g ad t) rfl, fun U hU hw => ⟨rfl, k_I.of hK hZ hN hS hW hU hw⟩⟩ rfl rfl hl.1 rfl (lv_room (Nat.le_of_ble_eq_true rfl)) dX5_setRules_38 ⟨(Nat.le_of_ble_eq_true rfl), (Nat.le_of_ble_eq_true rfl)⟩) hS (fun r u H locs hpo hW hS => ?_)
  obtain ⟨hr9, hu9⟩ := hpo; replace hu9 := hu9.symm; subst hu9; replace hr9 := hr9.symm; subst hr9
  have hW : k_H g ad (set_m_l t 1) H := hW
  refine lv_if_ne (tgt := 46) hx hb dX5_setRules_41 (by decide) (fun h_41 => absurd h_41 (by decide)) (fun h_41 => ?_)
  refine lv_iconst (v := nI 0) hx hb dX5_setRules_44 (by decide) ?_
  exact k_ri hQ hx hb hr hlk hS hW ⟨rfl, rfl⟩ (Nat.le_of_ble_eq_true rfl) (Nat.le_of_ble_eq_true rfl) dX5_setRules_45
set_option maxRecDepth 100000 in
set_option maxHeartbeats 4000000 in
theorem c_X5_setRules_2b (l : Launch) (hlt : l.stackTraces = false) (g : k_g) (ad : k_AD) (t : k_T) (ra : Nat) (z : Int32) (y2 : Int32) (h1 : ra ≤ 30) (hz : z < 0 ∨ nI 20 < z) : Met l yX5_setRules wsX5_setRules rm_X5_setRules (va_Pc [.ref (ad 9 0), .int (nI ra), .int z, .int y2] (k_I g (k_ct g ad t) ad)) (va_Qi (fun r u => r = nI 0 ∧ u = set_m_l t 1) (fun u U => k_H g ad u U.heap) (k_A g)) 0 0 (k_A g) := by
  refine k_met (cc := cX5_setRules) (maxL := 4) (ret := (some .int)) (by decide) rfl (Nat.le_of_ble_eq_true rfl) (fun p e s m args below meth c Q ls hQ hx hb hr hml hts hown hlk hin hK hZ hN hW hS hl => ?_)
  have hown : s.vm.findClass RX5 = some m.cls := hown
  have hW : k_H g ad t s.heap := hW
  have hl : lv_has ls 4 [(0, .ref (ad 9 0)), (1, .int (nI ra)), (2, .int z), (3, .int y2)] := hl
  refine lv_aload_n hx hb dX5_setRules_0 rfl (lv_at hl 0 rfl) ?_
  refine lv_iload_n hx hb dX5_setRules_1 rfl (lv_at hl 1 rfl) ?_
  refine lv_iconst (v := nI 0) hx hb dX5_setRules_2 (by decide) ?_
  refine lv_bipush (v := nI 30) hx hb dX5_setRules_3 (by decide) ?_
  refine k_ci (va_runS (As := [.int (nI ra), .int (nI 0), .int (nI 30)]) (rest := [.ref (ad 9 0)]) ⟨hx, hb, hml, hown, hts⟩ (c_X5_in_t l hlt g ad t (nI ra) (nI 0) (nI 30) (k_in_n (Nat.zero_le _) h1 (by decide))) (va_cwS 3 hts gX5_setRules_X5_in rfl rfl rfl (by decide +kernel) ⟨(Nat.le_of_ble_eq_true rfl), (Nat.le_of_ble_eq_true rfl)⟩) ⟨k_blind, fun U hU hw => ⟨rfl, k_I.of hK hZ hN hS hW hU hw⟩⟩ rfl rfl hl.1 rfl (lv_room (Nat.le_of_ble_eq_true rfl)) dX5_setRules_5 ⟨(Nat.le_of_ble_eq_true rfl), (Nat.le_of_ble_eq_true rfl)⟩) hS (fun r u H locs hpo hW hS => ?_)
  obtain ⟨hr9, hu9⟩ := hpo; replace hu9 := hu9.symm; subst hu9; replace hr9 := hr9.symm; subst hr9
  refine lv_if_eq (tgt := 35) hx hb dX5_setRules_8 (by decide) (fun h_8 => absurd h_8 (by decide)) (fun h_8 => ?_)
  refine lv_iload_n hx hb dX5_setRules_11 rfl (lv_at hl 2 rfl) ?_
  refine lv_iconst (v := nI 0) hx hb dX5_setRules_12 (by decide) ?_
  refine lv_bipush (v := nI 20) hx hb dX5_setRules_13 (by decide) ?_
  refine k_ci (va_runS (As := [.int z, .int (nI 0), .int (nI 20)]) (rest := [.ref (ad 9 0)]) ⟨hx, hb, hml, hown, hts⟩ (c_X5_in_f l hlt g ad t z (nI 0) (nI 20) (k_in_f hz)) (va_cwS 3 hts gX5_setRules_X5_in rfl rfl rfl (by decide +kernel) ⟨(Nat.le_of_ble_eq_true rfl), (Nat.le_of_ble_eq_true rfl)⟩) ⟨k_blind, fun U hU hw => ⟨rfl, k_I.of hK hZ hN hS hW hU hw⟩⟩ rfl rfl hl.1 rfl (lv_room (Nat.le_of_ble_eq_true rfl)) dX5_setRules_15 ⟨(Nat.le_of_ble_eq_true rfl), (Nat.le_of_ble_eq_true rfl)⟩) hS (fun r u H locs hpo hW hS => ?_)
  obtain ⟨hr9, hu9⟩ := hpo; replace hu9 := hu9.symm; subst hu9; replace hr9 := hr9.symm; subst hr9
  refine lv_if_eq (tgt := 35) hx hb dX5_setRules_18 (by decide) (fun h_18 => ?_) (fun h_18 => absurd h_18 (by decide))
  refine lv_iconst (v := nI 0) hx hb dX5_setRules_35 (by decide) ?_
  refine lv_iconst (v := nI 1) hx hb dX5_setRules_36 (by decide) ?_
  refine lv_iconst (v := nI 1) hx hb dX5_setRules_37 (by decide) ?_
  refine k_ci (va_runV (As := [.int (nI 0), .int (nI 1), .int (nI 1)]) (rest := []) ⟨hx, hb, hml, hown, hts⟩ (c_X5_goes_1 l hlt g ad t (nI 1) (nI 1) ) (cwV 3 hts gX5_setRules_X5_goes rfl rfl rfl (by decide +kernel) ⟨(Nat.le_of_ble_eq_true rfl), (Nat.le_of_ble_eq_true rfl)⟩) ⟨k_blind, k_recv hK hW (kc_9 g ad t) rfl, fun U hU hw => ⟨rfl, k_I.of hK hZ hN hS hW hU hw⟩⟩ rfl rfl hl.1 rfl (lv_room (Nat.le_of_ble_eq_true rfl)) dX5_setRules_38 ⟨(Nat.le_of_ble_eq_true rfl), (Nat.le_of_ble_eq_true rfl)⟩) hS (fun r u H locs hpo hW hS => ?_)
  obtain ⟨hr9, hu9⟩ := hpo; replace hu9 := hu9.symm; subst hu9; replace hr9 := hr9.symm; subst hr9
  have hW : k_H g ad (set_m_l t 1) H := hW
  refine lv_if_ne (tgt := 46) hx hb dX5_setRules_41 (by decide) (fun h_41 => absurd h_41 (by decide)) (fun h_41 => ?_)
  refine lv_iconst (v := nI 0) hx hb dX5_setRules_44 (by decide) ?_
  exact k_ri hQ hx hb hr hlk hS hW ⟨rfl, rfl⟩ (Nat.le_of_ble_eq_true rfl) (Nat.le_of_ble_eq_true rfl) dX5_setRules_45
set_option maxRecDepth 100000 in
set_option maxHeartbeats 4000000 in
theorem c_X5_setRules_3b (l : Launch) (hlt : l.stackTraces = false) (g : k_g) (ad : k_AD) (t : k_T) (ra : Nat) (rb : Nat) (z : Int32) (h1 : ra ≤ 30) (h2 : rb ≤ 20) (hz : z < 0 ∨ nI 12 < z) : Met l yX5_setRules wsX5_setRules rm_X5_setRules (va_Pc [.ref (ad 9 0), .int (nI ra), .int (nI rb), .int z] (k_I g (k_ct g ad t) ad)) (va_Qi (fun r u => r = nI 0 ∧ u = set_m_l t 1) (fun u U => k_H g ad u U.heap) (k_A g)) 0 0 (k_A g) := by
  refine k_met (cc := cX5_setRules) (maxL := 4) (ret := (some .int)) (by decide) rfl (Nat.le_of_ble_eq_true rfl) (fun p e s m args below meth c Q ls hQ hx hb hr hml hts hown hlk hin hK hZ hN hW hS hl => ?_)
  have hown : s.vm.findClass RX5 = some m.cls := hown
  have hW : k_H g ad t s.heap := hW
  have hl : lv_has ls 4 [(0, .ref (ad 9 0)), (1, .int (nI ra)), (2, .int (nI rb)), (3, .int z)] := hl
  refine lv_aload_n hx hb dX5_setRules_0 rfl (lv_at hl 0 rfl) ?_
  refine lv_iload_n hx hb dX5_setRules_1 rfl (lv_at hl 1 rfl) ?_
  refine lv_iconst (v := nI 0) hx hb dX5_setRules_2 (by decide) ?_
  refine lv_bipush (v := nI 30) hx hb dX5_setRules_3 (by decide) ?_
  refine k_ci (va_runS (As := [.int (nI ra), .int (nI 0), .int (nI 30)]) (rest := [.ref (ad 9 0)]) ⟨hx, hb, hml, hown, hts⟩ (c_X5_in_t l hlt g ad t (nI ra) (nI 0) (nI 30) (k_in_n (Nat.zero_le _) h1 (by decide))) (va_cwS 3 hts gX5_setRules_X5_in rfl rfl rfl (by decide +kernel) ⟨(Nat.le_of_ble_eq_true rfl), (Nat.le_of_ble_eq_true rfl)⟩) ⟨k_blind, fun U hU hw => ⟨rfl, k_I.of hK hZ hN hS hW hU hw⟩⟩ rfl rfl hl.1 rfl (lv_room (Nat.le_of_ble_eq_true rfl)) dX5_setRules_5 ⟨(Nat.le_of_ble_eq_true rfl), (Nat.le_of_ble_eq_true rfl)⟩) hS (fun r u H locs hpo hW hS => ?_)
  obtain ⟨hr9, hu9⟩ := hpo; replace hu9 := hu9.symm; subst hu9; replace hr9 := hr9.symm; subst hr9
  refine lv_if_eq (tgt := 35) hx hb dX5_setRules_8 (by decide) (fun h_8 => absurd h_8 (by decide)) (fun h_8 => ?_)
  refine lv_iload_n hx hb dX5_setRules_11 rfl (lv_at hl 2 rfl) ?_
  refine lv_iconst (v := nI 0) hx hb dX5_setRules_12 (by decide) ?_
  refine lv_bipush (v := nI 20) hx hb dX5_setRules_13 (by decide) ?_
  refine k_ci (va_runS (As := [.int (nI rb), .int (nI 0), .int (nI 20)]) (rest := [.ref (ad 9 0)]) ⟨hx, hb, hml, hown, hts⟩ (c_X5_in_t l hlt g ad t (nI rb) (nI 0) (nI 20) (k_in_n (Nat.zero_le _) h2 (by decide))) (va_cwS 3 hts gX5_setRules_X5_in rfl rfl rfl (by decide +kernel) ⟨(Nat.le_of_ble_eq_true rfl), (Nat.le_of_ble_eq_true rfl)⟩) ⟨k_blind, fun U hU hw => ⟨rfl, k_I.of hK hZ hN hS hW hU hw⟩⟩ rfl rfl hl.1 rfl (lv_room (Nat.le_of_ble_eq_true rfl)) dX5_setRules_15 ⟨(Nat.le_of_ble_eq_true rfl), (Nat.le_of_ble_eq_true rfl)⟩) hS (fun r u H locs hpo hW hS => ?_)
  obtain ⟨hr9, hu9⟩ := hpo; replace hu9 := hu9.symm; subst hu9; replace hr9 := hr9.symm; subst hr9
  refine lv_if_eq (tgt := 35) hx hb dX5_setRules_18 (by decide) (fun h_18 => absurd h_18 (by decide)) (fun h_18 => ?_)
  refine lv_iload_n hx hb dX5_setRules_21 rfl (lv_at hl 3 rfl) ?_
  refine lv_iconst (v := nI 0) hx hb dX5_setRules_22 (by decide) ?_
  refine lv_bipush (v := nI 12) hx hb dX5_setRules_23 (by decide) ?_
  refine k_ci (va_runS (As := [.int z, .int (nI 0), .int (nI 12)]) (rest := [.ref (ad 9 0)]) ⟨hx, hb, hml, hown, hts⟩ (c_X5_in_f l hlt g ad t z (nI 0) (nI 12) (k_in_f hz)) (va_cwS 3 hts gX5_setRules_X5_in rfl rfl rfl (by decide +kernel) ⟨(Nat.le_of_ble_eq_true rfl), (Nat.le_of_ble_eq_true rfl)⟩) ⟨k_blind, fun U hU hw => ⟨rfl, k_I.of hK hZ hN hS hW hU hw⟩⟩ rfl rfl hl.1 rfl (lv_room (Nat.le_of_ble_eq_true rfl)) dX5_setRules_25 ⟨(Nat.le_of_ble_eq_true rfl), (Nat.le_of_ble_eq_true rfl)⟩) hS (fun r u H locs hpo hW hS => ?_)
  obtain ⟨hr9, hu9⟩ := hpo; replace hu9 := hu9.symm; subst hu9; replace hr9 := hr9.symm; subst hr9
  refine lv_if_eq (tgt := 35) hx hb dX5_setRules_28 (by decide) (fun h_28 => ?_) (fun h_28 => absurd h_28 (by decide))
  refine lv_iconst (v := nI 0) hx hb dX5_setRules_35 (by decide) ?_
  refine lv_iconst (v := nI 1) hx hb dX5_setRules_36 (by decide) ?_
  refine lv_iconst (v := nI 1) hx hb dX5_setRules_37 (by decide) ?_
  refine k_ci (va_runV (As := [.int (nI 0), .int (nI 1), .int (nI 1)]) (rest := []) ⟨hx, hb, hml, hown, hts⟩ (c_X5_goes_1 l hlt g ad t (nI 1) (nI 1) ) (cwV 3 hts gX5_setRules_X5_goes rfl rfl rfl (by decide +kernel) ⟨(Nat.le_of_ble_eq_true rfl), (Nat.le_of_ble_eq_true rfl)⟩) ⟨k_blind, k_recv hK hW (kc_9 g ad t) rfl, fun U hU hw => ⟨rfl, k_I.of hK hZ hN hS hW hU hw⟩⟩ rfl rfl hl.1 rfl (lv_room (Nat.le_of_ble_eq_true rfl)) dX5_setRules_38 ⟨(Nat.le_of_ble_eq_true rfl), (Nat.le_of_ble_eq_true rfl)⟩) hS (fun r u H locs hpo hW hS => ?_)
  obtain ⟨hr9, hu9⟩ := hpo; replace hu9 := hu9.symm; subst hu9; replace hr9 := hr9.symm; subst hr9
  have hW : k_H g ad (set_m_l t 1) H := hW
  refine lv_if_ne (tgt := 46) hx hb dX5_setRules_41 (by decide) (fun h_41 => absurd h_41 (by decide)) (fun h_41 => ?_)
  refine lv_iconst (v := nI 0) hx hb dX5_setRules_44 (by decide) ?_
  exact k_ri hQ hx hb hr hlk hS hW ⟨rfl, rfl⟩ (Nat.le_of_ble_eq_true rfl) (Nat.le_of_ble_eq_true rfl) dX5_setRules_45
set_option maxRecDepth 100000 in
set_option maxHeartbeats 4000000 in
theorem c_X5_setRules_ok (l : Launch) (hlt : l.stackTraces = false) (g : k_g) (ad : k_AD) (t : k_T) (ra : Nat) (rb : Nat) (rc : Nat) (h1 : ra ≤ 30) (h2 : rb ≤ 20) (h3 : rc ≤ 12) (hm60 : m_md t ≤ 60) (hmb : ∀ k b, k < m_md t → m_b t k = some b → b < k) (hmo : ∀ j, j < m_md t → m_on t j ≤ 360) : Met l yX5_setRules wsX5_setRules rm_X5_setRules (va_Pc [.ref (ad 9 0), .int (nI ra), .int (nI rb), .int (nI rc)] (k_I g (k_ct g ad t) ad)) (va_Qi (fun r u => r = nI (k_cb (k_PmM (m_md t) (m_th t) (m_pm t) (m_on t) (ra) (rb) (rc)) (m_md t)) ∧ u = set_m_nd (set_m_pm (set_m_r3 (set_m_r2 (set_m_r1 (set_m_l t 0) ra) rb) rc) (k_PmM (m_md t) (m_th t) (m_pm t) (m_on t) (ra) (rb) (rc))) (k_NmM (m_md t) (m_nd t) (k_PmM (m_md t) (m_th t) (m_pm t) (m_on t) (ra) (rb) (rc)) (m_b t))) (fun u U => k_H g ad u U.heap) (k_A g)) 0 0 (k_A g) := by
  refine k_met (cc := cX5_setRules) (maxL := 4) (ret := (some .int)) (by decide) rfl (Nat.le_of_ble_eq_true rfl) (fun p e s m args below meth c Q ls hQ hx hb hr hml hts hown hlk hin hK hZ hN hW hS hl => ?_)
  have hown : s.vm.findClass RX5 = some m.cls := hown
  have hW : k_H g ad t s.heap := hW
  have hl : lv_has ls 4 [(0, .ref (ad 9 0)), (1, .int (nI ra)), (2, .int (nI rb)), (3, .int (nI rc))] := hl
  have hinX5 : ∀ w ∈ wsX50, w ∈ wsX5_setRules := by decide +kernel
  refine lv_aload_n hx hb dX5_setRules_0 rfl (lv_at hl 0 rfl) ?_
  refine lv_iload_n hx hb dX5_setRules_1 rfl (lv_at hl 1 rfl) ?_
  refine lv_iconst (v := nI 0) hx hb dX5_setRules_2 (by decide) ?_
  refine lv_bipush (v := nI 30) hx hb dX5_setRules_3 (by decide) ?_
  refine k_ci (va_runS (As := [.int (nI ra), .int (nI 0), .int (nI 30)]) (rest := [.ref (ad 9 0)]) ⟨hx, hb, hml, hown, hts⟩ (c_X5_in_t l hlt g ad t (nI ra) (nI 0) (nI 30) (k_in_n (Nat.zero_le _) h1 (by decide))) (va_cwS 3 hts gX5_setRules_X5_in rfl rfl rfl (by decide +kernel) ⟨(Nat.le_of_ble_eq_true rfl), (Nat.le_of_ble_eq_true rfl)⟩) ⟨k_blind, fun U hU hw => ⟨rfl, k_I.of hK hZ hN hS hW hU hw⟩⟩ rfl rfl hl.1 rfl (lv_room (Nat.le_of_ble_eq_true rfl)) dX5_setRules_5 ⟨(Nat.le_of_ble_eq_true rfl), (Nat.le_of_ble_eq_true rfl)⟩) hS (fun r u H locs hpo hW hS => ?_)
  obtain ⟨hr9, hu9⟩ := hpo; replace hu9 := hu9.symm; subst hu9; replace hr9 := hr9.symm; subst hr9
  refine lv_if_eq (tgt := 35) hx hb dX5_setRules_8 (by decide) (fun h_8 => absurd h_8 (by decide)) (fun h_8 => ?_)
  refine lv_iload_n hx hb dX5_setRules_11 rfl (lv_at hl 2 rfl) ?_
  refine lv_iconst (v := nI 0) hx hb dX5_setRules_12 (by decide) ?_
  refine lv_bipush (v := nI 20) hx hb dX5_setRules_13 (by decide) ?_
  refine k_ci (va_runS (As := [.int (nI rb), .int (nI 0), .int (nI 20)]) (rest := [.ref (ad 9 0)]) ⟨hx, hb, hml, hown, hts⟩ (c_X5_in_t l hlt g ad t (nI rb) (nI 0) (nI 20) (k_in_n (Nat.zero_le _) h2 (by decide))) (va_cwS 3 hts gX5_setRules_X5_in rfl rfl rfl (by decide +kernel) ⟨(Nat.le_of_ble_eq_true rfl), (Nat.le_of_ble_eq_true rfl)⟩) ⟨k_blind, fun U hU hw => ⟨rfl, k_I.of hK hZ hN hS hW hU hw⟩⟩ rfl rfl hl.1 rfl (lv_room (Nat.le_of_ble_eq_true rfl)) dX5_setRules_15 ⟨(Nat.le_of_ble_eq_true rfl), (Nat.le_of_ble_eq_true rfl)⟩) hS (fun r u H locs hpo hW hS => ?_)
  obtain ⟨hr9, hu9⟩ := hpo; replace hu9 := hu9.symm; subst hu9; replace hr9 := hr9.symm; subst hr9
  refine lv_if_eq (tgt := 35) hx hb dX5_setRules_18 (by decide) (fun h_18 => absurd h_18 (by decide)) (fun h_18 => ?_)
  refine lv_iload_n hx hb dX5_setRules_21 rfl (lv_at hl 3 rfl) ?_
  refine lv_iconst (v := nI 0) hx hb dX5_setRules_22 (by decide) ?_
  refine lv_bipush (v := nI 12) hx hb dX5_setRules_23 (by decide) ?_
  refine k_ci (va_runS (As := [.int (nI rc), .int (nI 0), .int (nI 12)]) (rest := [.ref (ad 9 0)]) ⟨hx, hb, hml, hown, hts⟩ (c_X5_in_t l hlt g ad t (nI rc) (nI 0) (nI 12) (k_in_n (Nat.zero_le _) h3 (by decide))) (va_cwS 3 hts gX5_setRules_X5_in rfl rfl rfl (by decide +kernel) ⟨(Nat.le_of_ble_eq_true rfl), (Nat.le_of_ble_eq_true rfl)⟩) ⟨k_blind, fun U hU hw => ⟨rfl, k_I.of hK hZ hN hS hW hU hw⟩⟩ rfl rfl hl.1 rfl (lv_room (Nat.le_of_ble_eq_true rfl)) dX5_setRules_25 ⟨(Nat.le_of_ble_eq_true rfl), (Nat.le_of_ble_eq_true rfl)⟩) hS (fun r u H locs hpo hW hS => ?_)
  obtain ⟨hr9, hu9⟩ := hpo; replace hu9 := hu9.symm; subst hu9; replace hr9 := hr9.symm; subst hr9
  refine lv_if_eq (tgt := 35) hx hb dX5_setRules_28 (by decide) (fun h_28 => absurd h_28 (by decide)) (fun h_28 => ?_)
  refine lv_iconst (v := nI 1) hx hb dX5_setRules_31 (by decide) ?_
  refine lv_goto (tgt := 36) hx hb dX5_setRules_32 (by decide) ?_
  refine lv_iconst (v := nI 1) hx hb dX5_setRules_36 (by decide) ?_
  refine lv_iconst (v := nI 1) hx hb dX5_setRules_37 (by decide) ?_
  refine k_ci (va_runV (As := [.int (nI 1), .int (nI 1), .int (nI 1)]) (rest := []) ⟨hx, hb, hml, hown, hts⟩ (c_X5_goes_0 l hlt g ad t ) (cwV 3 hts gX5_setRules_X5_goes rfl rfl rfl (by decide +kernel) ⟨(Nat.le_of_ble_eq_true rfl), (Nat.le_of_ble_eq_true rfl)⟩) ⟨k_blind, k_recv hK hW (kc_9 g ad t) rfl, fun U hU hw => ⟨rfl, k_I.of hK hZ hN hS hW hU hw⟩⟩ rfl rfl hl.1 rfl (lv_room (Nat.le_of_ble_eq_true rfl)) dX5_setRules_38 ⟨(Nat.le_of_ble_eq_true rfl), (Nat.le_of_ble_eq_true rfl)⟩) hS (fun r u H locs hpo hW hS => ?_)
  obtain ⟨hr9, hu9⟩ := hpo; replace hu9 := hu9.symm; subst hu9; replace hr9 := hr9.symm; subst hr9
  have hW : k_H g ad (set_m_l t 0) H := hW
  refine lv_if_ne (tgt := 46) hx hb dX5_setRules_41 (by decide) (fun h_41 => ?_) (fun h_41 => absurd h_41 (by decide))
  refine lv_aload_n hx hb dX5_setRules_46 rfl (lv_at hl 0 rfl) ?_
  refine lv_iload_n hx hb dX5_setRules_47 rfl (lv_at hl 1 rfl) ?_
  refine k_put (own := RX5) (C := RX5) (T := TX5) (N := 21) hx hb hts hinX5 tyX5 tyX5_ok nmX5 hown hK hW hS (kc_9 g ad (set_m_l t 0)) rfl 13 (by decide) (hts (.fieldLink RX5 41 "DrillVaultModel" "dayRule" "I") (by decide +kernel)) rfl rfl (ty := tyX5 13) (v := .int (nI ra)) (tyX5_ok 13 (by decide)) rfl rfl (Nat.le_of_ble_eq_true rfl) dX5_setRules_48 (fun H locs hW hS => ?_)
  have hW : k_H g ad (set_m_r1 (set_m_l t 0) ra) H := kt_m_r1 (t := set_m_l t 0) ra rfl hW
  refine lv_aload_n hx hb dX5_setRules_51 rfl (lv_at hl 0 rfl) ?_
  refine lv_iload_n hx hb dX5_setRules_52 rfl (lv_at hl 2 rfl) ?_
  refine k_put (own := RX5) (C := RX5) (T := TX5) (N := 21) hx hb hts hinX5 tyX5 tyX5_ok nmX5 hown hK hW hS (kc_9 g ad (set_m_r1 (set_m_l t 0) ra)) rfl 14 (by decide) (hts (.fieldLink RX5 45 "DrillVaultModel" "weekRule" "I") (by decide +kernel)) rfl rfl (ty := tyX5 14) (v := .int (nI rb)) (tyX5_ok 14 (by decide)) rfl rfl (Nat.le_of_ble_eq_true rfl) dX5_setRules_53 (fun H locs hW hS => ?_)
  have hW : k_H g ad (set_m_r2 (set_m_r1 (set_m_l t 0) ra) rb) H := kt_m_r2 (t := set_m_r1 (set_m_l t 0) ra) rb rfl hW
  refine lv_aload_n hx hb dX5_setRules_56 rfl (lv_at hl 0 rfl) ?_
  refine lv_iload_n hx hb dX5_setRules_57 rfl (lv_at hl 3 rfl) ?_
  refine k_put (own := RX5) (C := RX5) (T := TX5) (N := 21) hx hb hts hinX5 tyX5 tyX5_ok nmX5 hown hK hW hS (kc_9 g ad (set_m_r2 (set_m_r1 (set_m_l t 0) ra) rb)) rfl 15 (by decide) (hts (.fieldLink RX5 48 "DrillVaultModel" "monthRule" "I") (by decide +kernel)) rfl rfl (ty := tyX5 15) (v := .int (nI rc)) (tyX5_ok 15 (by decide)) rfl rfl (Nat.le_of_ble_eq_true rfl) dX5_setRules_58 (fun H locs hW hS => ?_)
  have hW : k_H g ad (set_m_r3 (set_m_r2 (set_m_r1 (set_m_l t 0) ra) rb) rc) H := kt_m_r3 (t := set_m_r2 (set_m_r1 (set_m_l t 0) ra) rb) rc rfl hW
  refine lv_aload_n hx hb dX5_setRules_61 rfl (lv_at hl 0 rfl) ?_
  refine k_ci (va_runV (As := []) (rest := []) ⟨hx, hb, hml, hown, hts⟩ (c_X5_marks l hlt g ad (set_m_r3 (set_m_r2 (set_m_r1 (set_m_l t 0) ra) rb) rc) hm60 hmb hmo h1 (Nat.le_trans h2 (by decide)) (Nat.le_trans h3 (by decide))) (cwV 0 hts gX5_setRules_X5_marks rfl rfl rfl (by decide +kernel) ⟨(Nat.le_of_ble_eq_true rfl), (Nat.le_of_ble_eq_true rfl)⟩) ⟨k_blind, k_recv hK hW (kc_9 g ad (set_m_r3 (set_m_r2 (set_m_r1 (set_m_l t 0) ra) rb) rc)) rfl, fun U hU hw => ⟨rfl, k_I.of hK hZ hN hS hW hU hw⟩⟩ rfl rfl hl.1 rfl (lv_room (Nat.le_of_ble_eq_true rfl)) dX5_setRules_62 ⟨(Nat.le_of_ble_eq_true rfl), (Nat.le_of_ble_eq_true rfl)⟩) hS (fun r u H locs hpo hW hS => ?_)
  obtain ⟨hr9, hu9⟩ := hpo; replace hu9 := hu9.symm; subst hu9; replace hr9 := hr9.symm; subst hr9
  have hW : k_H g ad (set_m_nd (set_m_pm (set_m_r3 (set_m_r2 (set_m_r1 (set_m_l t 0) ra) rb) rc) (k_PmM (m_md t) (m_th t) (m_pm t) (m_on t) (ra) (rb) (rc))) (k_NmM (m_md t) (m_nd t) (k_PmM (m_md t) (m_th t) (m_pm t) (m_on t) (ra) (rb) (rc)) (m_b t))) H := hW
  exact k_ri hQ hx hb hr hlk hS hW ⟨rfl, rfl⟩ (Nat.le_of_ble_eq_true rfl) (Nat.le_of_ble_eq_true rfl) dX5_setRules_65
