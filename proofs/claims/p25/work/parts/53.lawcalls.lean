/-- what the class's marks say of a copy that is there, in the law's words -/
theorem q_mark {th pm nd P1 N1 P2 N2 pv : Nat → Bool} {on : Nat → Nat} {bs : Nat → Option Nat} {r1 r2 r3 N j : Nat} {y : Int32} {v1 v2 v3 : Bool} (hw : ∀ j, th j = true → j < N) (hN : N ≤ 60) (hj : th j = true) (hP1 : P1 = k_Pm th pm on r1 r2 r3) (hN1 : N1 = k_Nm th nd (k_Pm th pm on r1 r2 r3) bs) (hP2 : P2 = k_Pm th P1 on r1 r2 r3) (hN2 : N2 = k_Nm th N1 (k_Pm th P1 on r1 r2 r3) bs)
    (h1 : P1 j = v1) (h2 : N2 j = v2) (h3 : pv j = v3) (hy : y = ((kb v1) + ((nI 2) * (kb v2))) + ((nI 4) * (kb v3))) : y = ((kb (k_P th on N r1 r2 r3 j)) + ((nI 2) * (kb (k_nd th (k_P th on N r1 r2 r3) bs N j)))) + ((nI 4) * (kb (pv j))) := by
  have e0 : ∀ pm9 k, th k = true → k_Pm th pm9 on r1 r2 r3 k = k_P th on N r1 r2 r3 k := fun pm9 k hk => by
    rw [k_Pm, if_pos hk, Bool.false_or, k_P_eq hw hN (fun _ _ => rfl)]
  have e1 : ∀ i k, k_nd th (k_Pm th P1 on r1 r2 r3) bs i k = k_nd th (k_P th on N r1 r2 r3) bs i k := by
    intro i k
    induction i with
    | zero => rfl
    | succ i ih =>
      simp only [k_nd, ih]
      cases hi : th i with
      | false => simp
      | true => rw [e0 P1 i hi]
  rw [hy, ← h1, ← h2, ← h3, hP1, e0 pm j hj, hN2, k_Nm, k_N0, if_pos hj, Bool.false_or, e1, k_nd_60 hw 60 hN]
abbrev rm_L_based : Room := { frames := 8, cells := 3, slots := 18, locals := 134 }
set_option maxRecDepth 100000 in
set_option maxHeartbeats 4000000 in
theorem cw_based_ok (l : Launch) (hlt : l.stackTraces = false) (g : k_g) (ad : k_AD) (t : k_T) (j : Nat) (hj : j < 60) (hs : s_th t j = true) (hwf : ∀ j, s_th t j = true → j < o_n t) (hbs : ∀ k b, k < o_n t → o_b t k = some b → b < o_n t ∧ b < k) : vx_Met l yL_based wsL_based rm_L_based (va_Pc [.ref (ad 0 0), .int (nI j)] (k_I g (k_ct g ad t) ad)) (va_Qi (fun r u => r = ((kO (o_b t j)) + (nI (100 * (o_on t j)))) + (nI (100000 * (o_kc t j))) ∧ u = t) (fun u U => k_H g ad u U.heap) (k_A g)) (fun _ _ _ => False) 3 18 (k_A g) := by
  refine k_metH (cc := cL_based) (maxL := 3) (ret := (some .int)) (by decide) rfl (Nat.le_of_ble_eq_true rfl) (fun p e s m args below meth c Q ls hQ hx hb hr hml hts hown hlk htab hK hZ hN hW hS hl => ?_)
  have hown : s.vm.findClass RL = some m.cls := hown
  have hW : k_H g ad t s.heap := hW
  have hl : lv_has ls 3 [(0, .ref (ad 0 0)), (1, .int (nI j))] := hl
  refine lv_aload_n hx hb dL_based_0 rfl (lv_at hl 0 rfl) ?_
  refine lv_iload_n hx hb dL_based_1 rfl (lv_at hl 1 rfl) ?_
  refine k_ci (va_runV (As := [.int (nI j)]) (rest := []) ⟨hx, hb, hml, hown, hts⟩ (c_X4_baseOf_ok l hlt g ad t j hj hs hwf hbs) (cwV 1 hts gL_based_X4_baseOf rfl rfl rfl (by decide +kernel) ⟨(Nat.le_of_ble_eq_true rfl), (Nat.le_of_ble_eq_true rfl)⟩) ⟨k_blind, k_recv hK hW (kc_0 g ad t) rfl, fun U hU hw => ⟨rfl, k_I.of hK hZ hN hS hW hU hw⟩⟩ rfl rfl hl.1 rfl (lv_room (Nat.le_of_ble_eq_true rfl)) dL_based_2 ⟨(Nat.le_of_ble_eq_true rfl), (Nat.le_of_ble_eq_true rfl)⟩) hS (fun r u H locs hpo hW hS => ?_)
  obtain ⟨hr9, hu9⟩ := hpo; replace hu9 := hu9.symm; subst hu9; replace hr9 := hr9.symm; subst hr9
  refine lv_bipush (v := nI 100) hx hb dL_based_5 (by decide) ?_
  refine lv_aload_n hx hb dL_based_7 rfl (lv_at hl 0 rfl) ?_
  refine lv_iload_n hx hb dL_based_8 rfl (lv_at hl 1 rfl) ?_
  refine k_ci (va_runV (As := [.int (nI j)]) (rest := [.int (nI 100), .int (kO (o_b t j))]) ⟨hx, hb, hml, hown, hts⟩ (c_X4_dayOf_ok l hlt g ad t j hj hs hwf) (cwV 1 hts gL_based_X4_dayOf rfl rfl rfl (by decide +kernel) ⟨(Nat.le_of_ble_eq_true rfl), (Nat.le_of_ble_eq_true rfl)⟩) ⟨k_blind, k_recv hK hW (kc_0 g ad t) rfl, fun U hU hw => ⟨rfl, k_I.of hK hZ hN hS hW hU hw⟩⟩ rfl rfl hl.1 rfl (lv_room (Nat.le_of_ble_eq_true rfl)) dL_based_9 ⟨(Nat.le_of_ble_eq_true rfl), (Nat.le_of_ble_eq_true rfl)⟩) hS (fun r u H locs hpo hW hS => ?_)
  obtain ⟨hr9, hu9⟩ := hpo; replace hu9 := hu9.symm; subst hu9; replace hr9 := hr9.symm; subst hr9
  refine k_imul hx hb dL_based_12 ?_
  refine lv_iadd hx hb dL_based_13 ?_
  refine lv_ldc (own := RL) (v := nI 100000) hx hb hown (hts (.constant RL 31 (nI 100000)) (by decide +kernel)) dL_based_14 ?_
  refine lv_aload_n hx hb dL_based_16 rfl (lv_at hl 0 rfl) ?_
  refine lv_iload_n hx hb dL_based_17 rfl (lv_at hl 1 rfl) ?_
  refine k_ci (va_runV (As := [.int (nI j)]) (rest := [.int (nI 100000), .int ((kO (o_b t j)) + (nI (100 * (o_on t j))))]) ⟨hx, hb, hml, hown, hts⟩ (c_X4_keeps_ok l hlt g ad t j hj hs hwf) (cwV 1 hts gL_based_X4_keeps rfl rfl rfl (by decide +kernel) ⟨(Nat.le_of_ble_eq_true rfl), (Nat.le_of_ble_eq_true rfl)⟩) ⟨k_blind, k_recv hK hW (kc_0 g ad t) rfl, fun U hU hw => ⟨rfl, k_I.of hK hZ hN hS hW hU hw⟩⟩ rfl rfl hl.1 rfl (lv_room (Nat.le_of_ble_eq_true rfl)) dL_based_18 ⟨(Nat.le_of_ble_eq_true rfl), (Nat.le_of_ble_eq_true rfl)⟩) hS (fun r u H locs hpo hW hS => ?_)
  obtain ⟨hr9, hu9⟩ := hpo; replace hu9 := hu9.symm; subst hu9; replace hr9 := hr9.symm; subst hr9
  refine k_imul hx hb dL_based_21 ?_
  refine lv_iadd hx hb dL_based_22 ?_
  exact k_riY hQ hx hb hr hlk hS hW ⟨rfl, rfl⟩ (Nat.le_of_ble_eq_true rfl) (Nat.le_of_ble_eq_true rfl) dL_based_23
set_option maxRecDepth 100000 in
set_option maxHeartbeats 4000000 in
theorem cw_based_b (l : Launch) (hlt : l.stackTraces = false) (g : k_g) (ad : k_AD) (t : k_T) (j : Nat) (hj : j < 60) (hs : s_th t j = false) : vx_Met l yL_based wsL_based rm_L_based (va_Pc [.ref (ad 0 0), .int (nI j)] (k_I g (k_ct g ad t) ad)) (va_Qi (fun r u => r = (-5) ∧ u = t) (fun u U => k_H g ad u U.heap) (k_A g)) (fun _ _ _ => False) 3 18 (k_A g) := by
  refine k_metH (cc := cL_based) (maxL := 3) (ret := (some .int)) (by decide) rfl (Nat.le_of_ble_eq_true rfl) (fun p e s m args below meth c Q ls hQ hx hb hr hml hts hown hlk htab hK hZ hN hW hS hl => ?_)
  have hown : s.vm.findClass RL = some m.cls := hown
  have hW : k_H g ad t s.heap := hW
  have hl : lv_has ls 3 [(0, .ref (ad 0 0)), (1, .int (nI j))] := hl
  refine lv_aload_n hx hb dL_based_0 rfl (lv_at hl 0 rfl) ?_
  refine lv_iload_n hx hb dL_based_1 rfl (lv_at hl 1 rfl) ?_
  refine k_xc (E0 := "java/lang/IndexOutOfBoundsException") (pre := []) (x := ⟨0, 23, 24, 35⟩) (suf := []) (vx_runV (As := [.int (nI j)]) (rest := []) ⟨hx, hb, hml, hown, hts⟩ (c_X4_baseOf_b l hlt g ad t (nI j) (Or.inr (Or.inr ⟨j, hj, rfl, hs⟩))) (cwV 1 hts gL_based_X4_baseOf rfl rfl rfl (by decide +kernel) ⟨(Nat.le_of_ble_eq_true rfl), (Nat.le_of_ble_eq_true rfl)⟩) ⟨k_blind, k_recv hK hW (kc_0 g ad t) rfl, fun U hU hw => ⟨rfl, k_I.of hK hZ hN hS hW hU hw⟩⟩ rfl rfl hl.1 rfl (lv_room (Nat.le_of_ble_eq_true rfl)) dL_based_2 ⟨(Nat.le_of_ble_eq_true rfl), (Nat.le_of_ble_eq_true rfl)⟩) hS hK hown (htab.trans rfl) (fun _ h9 => absurd h9 List.not_mem_nil) rfl (by decide) (hts (.classLink RL 35 "java/lang/IndexOutOfBoundsException") (by decide +kernel)) (by decide +kernel) (fun q9 H locs hW hS => ?_)
  refine lv_astore_n (lv' := [(2, .ref q9), (0, .ref (ad 0 0)), (1, .int (nI j))]) hx hb dL_based_24 rfl hl (by decide) rfl (fun ls hl => ?_)
  refine lv_bipush (v := (-5)) hx hb dL_based_25 (by decide) ?_
  exact k_riY hQ hx hb hr hlk hS hW ⟨rfl, rfl⟩ (Nat.le_of_ble_eq_true rfl) (Nat.le_of_ble_eq_true rfl) dL_based_27
abbrev rm_L_marked : Room := { frames := 8, cells := 3, slots := 18, locals := 134 }
set_option maxRecDepth 100000 in
set_option maxHeartbeats 4000000 in
theorem cw_marked_ok (l : Launch) (hlt : l.stackTraces = false) (g : k_g) (ad : k_AD) (t : k_T) (j : Nat) (N : Nat) (hj : j < 60) (hs : s_th t j = true) (hwf : ∀ j, s_th t j = true → j < o_n t) (hbs : ∀ k b, k < o_n t → o_b t k = some b → b < o_n t ∧ b < k) (hth : ∀ j b, s_th t j = true → o_b t j = some b → s_th t b = true) (hn60 : o_n t ≤ 60) (hon : ∀ j, j < o_n t → o_on t j ≤ 360) (hr1 : s_r1 t ≤ 30) (hr2 : s_r2 t ≤ 30) (hr3 : s_r3 t ≤ 30) (hwfN : ∀ j, s_th t j = true → j < N) (hN60 : N ≤ 60) : vx_Met l yL_marked wsL_marked rm_L_marked (va_Pc [.ref (ad 0 0), .int (nI j)] (k_I g (k_ct g ad t) ad)) (va_Qi (fun r u => r = ((kb (k_P (s_th t) (o_on t) N (s_r1 t) (s_r2 t) (s_r3 t) j)) + ((nI 2) * (kb (k_nd (s_th t) (k_P (s_th t) (o_on t) N (s_r1 t) (s_r2 t) (s_r3 t)) (o_b t) N j)))) + ((nI 4) * (kb (o_pv t j))) ∧ ∃ P N : Nat → Bool, u = set_o_nd (set_o_pm t P) N) (fun u U => k_H g ad u U.heap) (k_A g)) (fun _ _ _ => False) 3 18 (k_A g) := by
  refine k_metH (cc := cL_marked) (maxL := 3) (ret := (some .int)) (by decide) rfl (Nat.le_of_ble_eq_true rfl) (fun p e s m args below meth c Q ls hQ hx hb hr hml hts hown hlk htab hK hZ hN hW hS hl => ?_)
  have hown : s.vm.findClass RL = some m.cls := hown
  have hW : k_H g ad t s.heap := hW
  have hl : lv_has ls 3 [(0, .ref (ad 0 0)), (1, .int (nI j))] := hl
  refine lv_aload_n hx hb dL_marked_0 rfl (lv_at hl 0 rfl) ?_
  refine lv_iload_n hx hb dL_marked_1 rfl (lv_at hl 1 rfl) ?_
  refine k_ci (va_runV (As := [.int (nI j)]) (rest := []) ⟨hx, hb, hml, hown, hts⟩ (c_X4_isPromised_ok l hlt g ad t j hj hs hwf hbs hth hn60 hon hr1 hr2 hr3) (cwV 1 hts gL_marked_X4_isPromised rfl rfl rfl (by decide +kernel) ⟨(Nat.le_of_ble_eq_true rfl), (Nat.le_of_ble_eq_true rfl)⟩) ⟨k_blind, k_recv hK hW (kc_0 g ad t) rfl, fun U hU hw => ⟨rfl, k_I.of hK hZ hN hS hW hU hw⟩⟩ rfl rfl hl.1 rfl (lv_room (Nat.le_of_ble_eq_true rfl)) dL_marked_2 ⟨(Nat.le_of_ble_eq_true rfl), (Nat.le_of_ble_eq_true rfl)⟩) hS (fun r u H locs hpo hW hS => ?_)
  obtain ⟨hr9, hu9⟩ := hpo; replace hu9 := hu9.symm; subst hu9; replace hr9 := hr9.symm; subst hr9
  have hW : k_H g ad (set_o_nd (set_o_pm t (k_Pm (s_th t) (o_pm t) (o_on t) (s_r1 t) (s_r2 t) (s_r3 t))) (k_Nm (s_th t) (o_nd t) (k_Pm (s_th t) (o_pm t) (o_on t) (s_r1 t) (s_r2 t) (s_r3 t)) (o_b t))) H := hW
  obtain ⟨P1, hP1⟩ : ∃ P1 : Nat → Bool, P1 = (k_Pm (s_th t) (o_pm t) (o_on t) (s_r1 t) (s_r2 t) (s_r3 t)) := ⟨_, rfl⟩
  obtain ⟨N1, hN1⟩ : ∃ N1 : Nat → Bool, N1 = (k_Nm (s_th t) (o_nd t) (k_Pm (s_th t) (o_pm t) (o_on t) (s_r1 t) (s_r2 t) (s_r3 t)) (o_b t)) := ⟨_, rfl⟩
  have hW : k_H g ad (set_o_nd (set_o_pm t P1) N1) H := by rw [hP1, hN1]; exact hW
  refine k_tov (y := .int (kb (P1 j))) (by rw [hP1]) ?_
  refine k_ifz_eq (tgt := 12) hx hb dL_marked_5 (by decide) (fun h_5 => ?_) (fun h_5 => ?_)
  · refine lv_iconst (v := nI 0) hx hb dL_marked_12 (by decide) ?_
    refine lv_aload_n hx hb dL_marked_13 rfl (lv_at hl 0 rfl) ?_
    refine lv_iload_n hx hb dL_marked_14 rfl (lv_at hl 1 rfl) ?_
    refine k_ci (va_runV (As := [.int (nI j)]) (rest := [.int (nI 0)]) ⟨hx, hb, hml, hown, hts⟩ (c_X4_isNeeded_ok l hlt g ad (set_o_nd (set_o_pm t P1) N1) j hj hs hwf hbs hth hn60 hon hr1 hr2 hr3) (cwV 1 hts gL_marked_X4_isNeeded rfl rfl rfl (by decide +kernel) ⟨(Nat.le_of_ble_eq_true rfl), (Nat.le_of_ble_eq_true rfl)⟩) ⟨k_blind, k_recv hK hW (kc_0 g ad (set_o_nd (set_o_pm t P1) N1)) rfl, fun U hU hw => ⟨rfl, k_I.of hK hZ hN hS hW hU hw⟩⟩ rfl rfl hl.1 rfl (lv_room (Nat.le_of_ble_eq_true rfl)) dL_marked_15 ⟨(Nat.le_of_ble_eq_true rfl), (Nat.le_of_ble_eq_true rfl)⟩) hS (fun r u H locs hpo hW hS => ?_)
    obtain ⟨hr9, hu9⟩ := hpo; replace hu9 := hu9.symm; subst hu9; replace hr9 := hr9.symm; subst hr9
    have hW : k_H g ad (set_o_nd (set_o_pm t (k_Pm (s_th t) (P1) (o_on t) (s_r1 t) (s_r2 t) (s_r3 t))) (k_Nm (s_th t) (N1) (k_Pm (s_th t) (P1) (o_on t) (s_r1 t) (s_r2 t) (s_r3 t)) (o_b t))) H := hW
    obtain ⟨P2, hP2⟩ : ∃ P2 : Nat → Bool, P2 = (k_Pm (s_th t) (P1) (o_on t) (s_r1 t) (s_r2 t) (s_r3 t)) := ⟨_, rfl⟩
    obtain ⟨N2, hN2⟩ : ∃ N2 : Nat → Bool, N2 = (k_Nm (s_th t) (N1) (k_Pm (s_th t) (P1) (o_on t) (s_r1 t) (s_r2 t) (s_r3 t)) (o_b t)) := ⟨_, rfl⟩
    have hW : k_H g ad (set_o_nd (set_o_pm t P2) N2) H := by rw [hP2, hN2]; exact hW
    refine k_tov (y := .int (kb (N2 j))) (by rw [hN2]) ?_
    refine k_ifz_eq (tgt := 25) hx hb dL_marked_18 (by decide) (fun h_18 => ?_) (fun h_18 => ?_)
    · refine lv_iconst (v := nI 0) hx hb dL_marked_25 (by decide) ?_
      refine k_iadd hx hb dL_marked_26 ?_
      refine lv_aload_n hx hb dL_marked_27 rfl (lv_at hl 0 rfl) ?_
      refine lv_iload_n hx hb dL_marked_28 rfl (lv_at hl 1 rfl) ?_
      refine k_ci (va_runV (As := [.int (nI j)]) (rest := [.int (nI (0 + 0))]) ⟨hx, hb, hml, hown, hts⟩ (c_X4_isProved_ok l hlt g ad (set_o_nd (set_o_pm t P2) N2) j hj hs hwf) (cwV 1 hts gL_marked_X4_isProved rfl rfl rfl (by decide +kernel) ⟨(Nat.le_of_ble_eq_true rfl), (Nat.le_of_ble_eq_true rfl)⟩) ⟨k_blind, k_recv hK hW (kc_0 g ad (set_o_nd (set_o_pm t P2) N2)) rfl, fun U hU hw => ⟨rfl, k_I.of hK hZ hN hS hW hU hw⟩⟩ rfl rfl hl.1 rfl (lv_room (Nat.le_of_ble_eq_true rfl)) dL_marked_29 ⟨(Nat.le_of_ble_eq_true rfl), (Nat.le_of_ble_eq_true rfl)⟩) hS (fun r u H locs hpo hW hS => ?_)
      obtain ⟨hr9, hu9⟩ := hpo; replace hu9 := hu9.symm; subst hu9; replace hr9 := hr9.symm; subst hr9
      refine k_ifz_eq (tgt := 39) hx hb dL_marked_32 (by decide) (fun h_32 => ?_) (fun h_32 => ?_)
      · refine lv_iconst (v := nI 0) hx hb dL_marked_39 (by decide) ?_
        refine k_iadd hx hb dL_marked_40 ?_
        exact k_riY hQ hx hb hr hlk hS hW ⟨q_mark hwfN hN60 hs hP1 hN1 hP2 hN2 h_5 h_18 h_32 (by decide), P2, N2, rfl⟩ (Nat.le_of_ble_eq_true rfl) (Nat.le_of_ble_eq_true rfl) dL_marked_41
      · refine lv_iconst (v := nI 4) hx hb dL_marked_35 (by decide) ?_
        refine lv_goto (tgt := 40) hx hb dL_marked_36 (by decide) ?_
        refine k_iadd hx hb dL_marked_40 ?_
        exact k_riY hQ hx hb hr hlk hS hW ⟨q_mark hwfN hN60 hs hP1 hN1 hP2 hN2 h_5 h_18 h_32 (by decide), P2, N2, rfl⟩ (Nat.le_of_ble_eq_true rfl) (Nat.le_of_ble_eq_true rfl) dL_marked_41
    · refine lv_iconst (v := nI 2) hx hb dL_marked_21 (by decide) ?_
      refine lv_goto (tgt := 26) hx hb dL_marked_22 (by decide) ?_
      refine k_iadd hx hb dL_marked_26 ?_
      refine lv_aload_n hx hb dL_marked_27 rfl (lv_at hl 0 rfl) ?_
      refine lv_iload_n hx hb dL_marked_28 rfl (lv_at hl 1 rfl) ?_
      refine k_ci (va_runV (As := [.int (nI j)]) (rest := [.int (nI (0 + 2))]) ⟨hx, hb, hml, hown, hts⟩ (c_X4_isProved_ok l hlt g ad (set_o_nd (set_o_pm t P2) N2) j hj hs hwf) (cwV 1 hts gL_marked_X4_isProved rfl rfl rfl (by decide +kernel) ⟨(Nat.le_of_ble_eq_true rfl), (Nat.le_of_ble_eq_true rfl)⟩) ⟨k_blind, k_recv hK hW (kc_0 g ad (set_o_nd (set_o_pm t P2) N2)) rfl, fun U hU hw => ⟨rfl, k_I.of hK hZ hN hS hW hU hw⟩⟩ rfl rfl hl.1 rfl (lv_room (Nat.le_of_ble_eq_true rfl)) dL_marked_29 ⟨(Nat.le_of_ble_eq_true rfl), (Nat.le_of_ble_eq_true rfl)⟩) hS (fun r u H locs hpo hW hS => ?_)
      obtain ⟨hr9, hu9⟩ := hpo; replace hu9 := hu9.symm; subst hu9; replace hr9 := hr9.symm; subst hr9
      refine k_ifz_eq (tgt := 39) hx hb dL_marked_32 (by decide) (fun h_32 => ?_) (fun h_32 => ?_)
      · refine lv_iconst (v := nI 0) hx hb dL_marked_39 (by decide) ?_
        refine k_iadd hx hb dL_marked_40 ?_
        exact k_riY hQ hx hb hr hlk hS hW ⟨q_mark hwfN hN60 hs hP1 hN1 hP2 hN2 h_5 h_18 h_32 (by decide), P2, N2, rfl⟩ (Nat.le_of_ble_eq_true rfl) (Nat.le_of_ble_eq_true rfl) dL_marked_41
      · refine lv_iconst (v := nI 4) hx hb dL_marked_35 (by decide) ?_
        refine lv_goto (tgt := 40) hx hb dL_marked_36 (by decide) ?_
        refine k_iadd hx hb dL_marked_40 ?_
        exact k_riY hQ hx hb hr hlk hS hW ⟨q_mark hwfN hN60 hs hP1 hN1 hP2 hN2 h_5 h_18 h_32 (by decide), P2, N2, rfl⟩ (Nat.le_of_ble_eq_true rfl) (Nat.le_of_ble_eq_true rfl) dL_marked_41
  · refine lv_iconst (v := nI 1) hx hb dL_marked_8 (by decide) ?_
    refine lv_goto (tgt := 13) hx hb dL_marked_9 (by decide) ?_
    refine lv_aload_n hx hb dL_marked_13 rfl (lv_at hl 0 rfl) ?_
    refine lv_iload_n hx hb dL_marked_14 rfl (lv_at hl 1 rfl) ?_
    refine k_ci (va_runV (As := [.int (nI j)]) (rest := [.int (nI 1)]) ⟨hx, hb, hml, hown, hts⟩ (c_X4_isNeeded_ok l hlt g ad (set_o_nd (set_o_pm t P1) N1) j hj hs hwf hbs hth hn60 hon hr1 hr2 hr3) (cwV 1 hts gL_marked_X4_isNeeded rfl rfl rfl (by decide +kernel) ⟨(Nat.le_of_ble_eq_true rfl), (Nat.le_of_ble_eq_true rfl)⟩) ⟨k_blind, k_recv hK hW (kc_0 g ad (set_o_nd (set_o_pm t P1) N1)) rfl, fun U hU hw => ⟨rfl, k_I.of hK hZ hN hS hW hU hw⟩⟩ rfl rfl hl.1 rfl (lv_room (Nat.le_of_ble_eq_true rfl)) dL_marked_15 ⟨(Nat.le_of_ble_eq_true rfl), (Nat.le_of_ble_eq_true rfl)⟩) hS (fun r u H locs hpo hW hS => ?_)
    obtain ⟨hr9, hu9⟩ := hpo; replace hu9 := hu9.symm; subst hu9; replace hr9 := hr9.symm; subst hr9
    have hW : k_H g ad (set_o_nd (set_o_pm t (k_Pm (s_th t) (P1) (o_on t) (s_r1 t) (s_r2 t) (s_r3 t))) (k_Nm (s_th t) (N1) (k_Pm (s_th t) (P1) (o_on t) (s_r1 t) (s_r2 t) (s_r3 t)) (o_b t))) H := hW
    obtain ⟨P2, hP2⟩ : ∃ P2 : Nat → Bool, P2 = (k_Pm (s_th t) (P1) (o_on t) (s_r1 t) (s_r2 t) (s_r3 t)) := ⟨_, rfl⟩
    obtain ⟨N2, hN2⟩ : ∃ N2 : Nat → Bool, N2 = (k_Nm (s_th t) (N1) (k_Pm (s_th t) (P1) (o_on t) (s_r1 t) (s_r2 t) (s_r3 t)) (o_b t)) := ⟨_, rfl⟩
    have hW : k_H g ad (set_o_nd (set_o_pm t P2) N2) H := by rw [hP2, hN2]; exact hW
    refine k_tov (y := .int (kb (N2 j))) (by rw [hN2]) ?_
    refine k_ifz_eq (tgt := 25) hx hb dL_marked_18 (by decide) (fun h_18 => ?_) (fun h_18 => ?_)
    · refine lv_iconst (v := nI 0) hx hb dL_marked_25 (by decide) ?_
      refine k_iadd hx hb dL_marked_26 ?_
      refine lv_aload_n hx hb dL_marked_27 rfl (lv_at hl 0 rfl) ?_
      refine lv_iload_n hx hb dL_marked_28 rfl (lv_at hl 1 rfl) ?_
      refine k_ci (va_runV (As := [.int (nI j)]) (rest := [.int (nI (1 + 0))]) ⟨hx, hb, hml, hown, hts⟩ (c_X4_isProved_ok l hlt g ad (set_o_nd (set_o_pm t P2) N2) j hj hs hwf) (cwV 1 hts gL_marked_X4_isProved rfl rfl rfl (by decide +kernel) ⟨(Nat.le_of_ble_eq_true rfl), (Nat.le_of_ble_eq_true rfl)⟩) ⟨k_blind, k_recv hK hW (kc_0 g ad (set_o_nd (set_o_pm t P2) N2)) rfl, fun U hU hw => ⟨rfl, k_I.of hK hZ hN hS hW hU hw⟩⟩ rfl rfl hl.1 rfl (lv_room (Nat.le_of_ble_eq_true rfl)) dL_marked_29 ⟨(Nat.le_of_ble_eq_true rfl), (Nat.le_of_ble_eq_true rfl)⟩) hS (fun r u H locs hpo hW hS => ?_)
      obtain ⟨hr9, hu9⟩ := hpo; replace hu9 := hu9.symm; subst hu9; replace hr9 := hr9.symm; subst hr9
      refine k_ifz_eq (tgt := 39) hx hb dL_marked_32 (by decide) (fun h_32 => ?_) (fun h_32 => ?_)
      · refine lv_iconst (v := nI 0) hx hb dL_marked_39 (by decide) ?_
        refine k_iadd hx hb dL_marked_40 ?_
        exact k_riY hQ hx hb hr hlk hS hW ⟨q_mark hwfN hN60 hs hP1 hN1 hP2 hN2 h_5 h_18 h_32 (by decide), P2, N2, rfl⟩ (Nat.le_of_ble_eq_true rfl) (Nat.le_of_ble_eq_true rfl) dL_marked_41
      · refine lv_iconst (v := nI 4) hx hb dL_marked_35 (by decide) ?_
        refine lv_goto (tgt := 40) hx hb dL_marked_36 (by decide) ?_
        refine k_iadd hx hb dL_marked_40 ?_
        exact k_riY hQ hx hb hr hlk hS hW ⟨q_mark hwfN hN60 hs hP1 hN1 hP2 hN2 h_5 h_18 h_32 (by decide), P2, N2, rfl⟩ (Nat.le_of_ble_eq_true rfl) (Nat.le_of_ble_eq_true rfl) dL_marked_41
    · refine lv_iconst (v := nI 2) hx hb dL_marked_21 (by decide) ?_
      refine lv_goto (tgt := 26) hx hb dL_marked_22 (by decide) ?_
      refine k_iadd hx hb dL_marked_26 ?_
      refine lv_aload_n hx hb dL_marked_27 rfl (lv_at hl 0 rfl) ?_
      refine lv_iload_n hx hb dL_marked_28 rfl (lv_at hl 1 rfl) ?_
      refine k_ci (va_runV (As := [.int (nI j)]) (rest := [.int (nI (1 + 2))]) ⟨hx, hb, hml, hown, hts⟩ (c_X4_isProved_ok l hlt g ad (set_o_nd (set_o_pm t P2) N2) j hj hs hwf) (cwV 1 hts gL_marked_X4_isProved rfl rfl rfl (by decide +kernel) ⟨(Nat.le_of_ble_eq_true rfl), (Nat.le_of_ble_eq_true rfl)⟩) ⟨k_blind, k_recv hK hW (kc_0 g ad (set_o_nd (set_o_pm t P2) N2)) rfl, fun U hU hw => ⟨rfl, k_I.of hK hZ hN hS hW hU hw⟩⟩ rfl rfl hl.1 rfl (lv_room (Nat.le_of_ble_eq_true rfl)) dL_marked_29 ⟨(Nat.le_of_ble_eq_true rfl), (Nat.le_of_ble_eq_true rfl)⟩) hS (fun r u H locs hpo hW hS => ?_)
      obtain ⟨hr9, hu9⟩ := hpo; replace hu9 := hu9.symm; subst hu9; replace hr9 := hr9.symm; subst hr9
      refine k_ifz_eq (tgt := 39) hx hb dL_marked_32 (by decide) (fun h_32 => ?_) (fun h_32 => ?_)
      · refine lv_iconst (v := nI 0) hx hb dL_marked_39 (by decide) ?_
        refine k_iadd hx hb dL_marked_40 ?_
        exact k_riY hQ hx hb hr hlk hS hW ⟨q_mark hwfN hN60 hs hP1 hN1 hP2 hN2 h_5 h_18 h_32 (by decide), P2, N2, rfl⟩ (Nat.le_of_ble_eq_true rfl) (Nat.le_of_ble_eq_true rfl) dL_marked_41
      · refine lv_iconst (v := nI 4) hx hb dL_marked_35 (by decide) ?_
        refine lv_goto (tgt := 40) hx hb dL_marked_36 (by decide) ?_
        refine k_iadd hx hb dL_marked_40 ?_
        exact k_riY hQ hx hb hr hlk hS hW ⟨q_mark hwfN hN60 hs hP1 hN1 hP2 hN2 h_5 h_18 h_32 (by decide), P2, N2, rfl⟩ (Nat.le_of_ble_eq_true rfl) (Nat.le_of_ble_eq_true rfl) dL_marked_41
set_option maxRecDepth 100000 in
set_option maxHeartbeats 4000000 in
theorem cw_marked_b (l : Launch) (hlt : l.stackTraces = false) (g : k_g) (ad : k_AD) (t : k_T) (j : Nat) (hj : j < 60) (hs : s_th t j = false) : vx_Met l yL_marked wsL_marked rm_L_marked (va_Pc [.ref (ad 0 0), .int (nI j)] (k_I g (k_ct g ad t) ad)) (va_Qi (fun r u => r = (-5) ∧ u = t) (fun u U => k_H g ad u U.heap) (k_A g)) (fun _ _ _ => False) 3 18 (k_A g) := by
  refine k_metH (cc := cL_marked) (maxL := 3) (ret := (some .int)) (by decide) rfl (Nat.le_of_ble_eq_true rfl) (fun p e s m args below meth c Q ls hQ hx hb hr hml hts hown hlk htab hK hZ hN hW hS hl => ?_)
  have hown : s.vm.findClass RL = some m.cls := hown
  have hW : k_H g ad t s.heap := hW
  have hl : lv_has ls 3 [(0, .ref (ad 0 0)), (1, .int (nI j))] := hl
  refine lv_aload_n hx hb dL_marked_0 rfl (lv_at hl 0 rfl) ?_
  refine lv_iload_n hx hb dL_marked_1 rfl (lv_at hl 1 rfl) ?_
  refine k_xc (E0 := "java/lang/IndexOutOfBoundsException") (pre := []) (x := ⟨0, 41, 42, 35⟩) (suf := []) (vx_runV (As := [.int (nI j)]) (rest := []) ⟨hx, hb, hml, hown, hts⟩ (c_X4_isPromised_b l hlt g ad t (nI j) (Or.inr (Or.inr ⟨j, hj, rfl, hs⟩))) (cwV 1 hts gL_marked_X4_isPromised rfl rfl rfl (by decide +kernel) ⟨(Nat.le_of_ble_eq_true rfl), (Nat.le_of_ble_eq_true rfl)⟩) ⟨k_blind, k_recv hK hW (kc_0 g ad t) rfl, fun U hU hw => ⟨rfl, k_I.of hK hZ hN hS hW hU hw⟩⟩ rfl rfl hl.1 rfl (lv_room (Nat.le_of_ble_eq_true rfl)) dL_marked_2 ⟨(Nat.le_of_ble_eq_true rfl), (Nat.le_of_ble_eq_true rfl)⟩) hS hK hown (htab.trans rfl) (fun _ h9 => absurd h9 List.not_mem_nil) rfl (by decide) (hts (.classLink RL 35 "java/lang/IndexOutOfBoundsException") (by decide +kernel)) (by decide +kernel) (fun q9 H locs hW hS => ?_)
  refine lv_astore_n (lv' := [(2, .ref q9), (0, .ref (ad 0 0)), (1, .int (nI j))]) hx hb dL_marked_42 rfl hl (by decide) rfl (fun ls hl => ?_)
  refine lv_bipush (v := (-5)) hx hb dL_marked_43 (by decide) ?_
  exact k_riY hQ hx hb hr hlk hS hW ⟨rfl, rfl⟩ (Nat.le_of_ble_eq_true rfl) (Nat.le_of_ble_eq_true rfl) dL_marked_45
abbrev rm_L_restored : Room := { frames := 8, cells := 6, slots := 36, locals := 135 }
set_option maxRecDepth 100000 in
set_option maxHeartbeats 4000000 in
theorem cw_restored_ok (l : Launch) (hlt : l.stackTraces = false) (g : k_g) (ad : k_AD) (t : k_T) (j : Nat) (f : Nat) (hj : j < 60) (hs : s_th t j = true) (hf : f < 10) (hwf : ∀ j, s_th t j = true → j < o_n t) (hbs : ∀ k b, k < o_n t → o_b t k = some b → b < o_n t ∧ b < k) (hca : o_ca t j ≤ 300) (hlf : ∀ i, i < o_ca t j → f_lf t i < 10) (hfk : k_fk (o_k t) f (k_cl (o_b t) j) = k_log (f_lf t) (f_lt t) (o_ca t j) f) : vx_Met l yL_restored wsL_restored rm_L_restored (va_Pc [.ref (ad 0 0), .int (nI j), .int (nI f)] (k_I g (k_ct g ad t) ad)) (va_Qi (fun r u => r = k_log (f_lf t) (f_lt t) (o_ca t j) f ∧ u = t) (fun u U => k_H g ad u U.heap) (k_A g)) (fun _ _ _ => False) 6 36 (k_A g) := by
  refine k_metH (cc := cL_restored) (maxL := 4) (ret := (some .int)) (by decide) rfl (Nat.le_of_ble_eq_true rfl) (fun p e s m args below meth c Q ls hQ hx hb hr hml hts hown hlk htab hK hZ hN hW hS hl => ?_)
  have hown : s.vm.findClass RL = some m.cls := hown
  have hW : k_H g ad t s.heap := hW
  have hl : lv_has ls 4 [(0, .ref (ad 0 0)), (1, .int (nI j)), (2, .int (nI f))] := hl
  refine lv_aload_n hx hb dL_restored_0 rfl (lv_at hl 0 rfl) ?_
  refine lv_iload_n hx hb dL_restored_1 rfl (lv_at hl 1 rfl) ?_
  refine lv_iload_n hx hb dL_restored_2 rfl (lv_at hl 2 rfl) ?_
  refine k_ci (va_runV (As := [.int (nI j), .int (nI f)]) (rest := []) ⟨hx, hb, hml, hown, hts⟩ (c_X4_restore_ok l hlt g ad t j f hj hs hf hwf hbs) (cwV 2 hts gL_restored_X4_restore rfl rfl rfl (by decide +kernel) ⟨(Nat.le_of_ble_eq_true rfl), (Nat.le_of_ble_eq_true rfl)⟩) ⟨k_blind, k_recv hK hW (kc_0 g ad t) rfl, fun U hU hw => ⟨rfl, k_I.of hK hZ hN hS hW hU hw⟩⟩ rfl rfl hl.1 rfl (lv_room (Nat.le_of_ble_eq_true rfl)) dL_restored_3 ⟨(Nat.le_of_ble_eq_true rfl), (Nat.le_of_ble_eq_true rfl)⟩) hS (fun r u H locs hpo hW hS => ?_)
  obtain ⟨hr9, hu9⟩ := hpo; replace hu9 := hu9.symm; subst hu9; replace hr9 := hr9.symm; subst hr9
  refine lv_aload_n hx hb dL_restored_6 rfl (lv_at hl 0 rfl) ?_
  refine lv_iload_n hx hb dL_restored_7 rfl (lv_at hl 1 rfl) ?_
  refine lv_iload_n hx hb dL_restored_8 rfl (lv_at hl 2 rfl) ?_
  refine k_ci (va_runV (As := [.int (nI j), .int (nI f)]) (rest := [.int (k_fk (o_k t) f (k_cl (o_b t) j))]) ⟨hx, hb, hml, hown, hts⟩ (c_X4_restoreByChanges_ok l hlt g ad t j f hj hs hf hwf hca hlf) (cwV 2 hts gL_restored_X4_restoreByChanges rfl rfl rfl (by decide +kernel) ⟨(Nat.le_of_ble_eq_true rfl), (Nat.le_of_ble_eq_true rfl)⟩) ⟨k_blind, k_recv hK hW (kc_0 g ad t) rfl, fun U hU hw => ⟨rfl, k_I.of hK hZ hN hS hW hU hw⟩⟩ rfl rfl hl.1 rfl (lv_room (Nat.le_of_ble_eq_true rfl)) dL_restored_9 ⟨(Nat.le_of_ble_eq_true rfl), (Nat.le_of_ble_eq_true rfl)⟩) hS (fun r u H locs hpo hW hS => ?_)
  obtain ⟨hr9, hu9⟩ := hpo; replace hu9 := hu9.symm; subst hu9; replace hr9 := hr9.symm; subst hr9
  refine lv_icmp_ne (tgt := 24) hx hb dL_restored_12 (by decide) (fun h_12 => absurd h_12 (fun q => q hfk)) (fun h_12 => ?_)
  refine lv_aload_n hx hb dL_restored_15 rfl (lv_at hl 0 rfl) ?_
  refine lv_iload_n hx hb dL_restored_16 rfl (lv_at hl 1 rfl) ?_
  refine lv_iload_n hx hb dL_restored_17 rfl (lv_at hl 2 rfl) ?_
  refine k_ci (va_runV (As := [.int (nI j), .int (nI f)]) (rest := []) ⟨hx, hb, hml, hown, hts⟩ (c_X4_restore_ok l hlt g ad t j f hj hs hf hwf hbs) (cwV 2 hts gL_restored_X4_restore rfl rfl rfl (by decide +kernel) ⟨(Nat.le_of_ble_eq_true rfl), (Nat.le_of_ble_eq_true rfl)⟩) ⟨k_blind, k_recv hK hW (kc_0 g ad t) rfl, fun U hU hw => ⟨rfl, k_I.of hK hZ hN hS hW hU hw⟩⟩ rfl rfl hl.1 rfl (lv_room (Nat.le_of_ble_eq_true rfl)) dL_restored_18 ⟨(Nat.le_of_ble_eq_true rfl), (Nat.le_of_ble_eq_true rfl)⟩) hS (fun r u H locs hpo hW hS => ?_)
  obtain ⟨hr9, hu9⟩ := hpo; replace hu9 := hu9.symm; subst hu9; replace hr9 := hr9.symm; subst hr9
  refine lv_goto (tgt := 26) hx hb dL_restored_21 (by decide) ?_
  exact k_riY hQ hx hb hr hlk hS hW ⟨hfk, rfl⟩ (Nat.le_of_ble_eq_true rfl) (Nat.le_of_ble_eq_true rfl) dL_restored_26
set_option maxRecDepth 100000 in
set_option maxHeartbeats 4000000 in
theorem cw_restored_b (l : Launch) (hlt : l.stackTraces = false) (g : k_g) (ad : k_AD) (t : k_T) (j : Nat) (f : Nat) (hj : j < 60) (hs : s_th t j = false) : vx_Met l yL_restored wsL_restored rm_L_restored (va_Pc [.ref (ad 0 0), .int (nI j), .int (nI f)] (k_I g (k_ct g ad t) ad)) (va_Qi (fun r u => r = (-5) ∧ u = t) (fun u U => k_H g ad u U.heap) (k_A g)) (fun _ _ _ => False) 6 36 (k_A g) := by
  refine k_metH (cc := cL_restored) (maxL := 4) (ret := (some .int)) (by decide) rfl (Nat.le_of_ble_eq_true rfl) (fun p e s m args below meth c Q ls hQ hx hb hr hml hts hown hlk htab hK hZ hN hW hS hl => ?_)
  have hown : s.vm.findClass RL = some m.cls := hown
  have hW : k_H g ad t s.heap := hW
  have hl : lv_has ls 4 [(0, .ref (ad 0 0)), (1, .int (nI j)), (2, .int (nI f))] := hl
  refine lv_aload_n hx hb dL_restored_0 rfl (lv_at hl 0 rfl) ?_
  refine lv_iload_n hx hb dL_restored_1 rfl (lv_at hl 1 rfl) ?_
  refine lv_iload_n hx hb dL_restored_2 rfl (lv_at hl 2 rfl) ?_
  refine k_xc (E0 := "java/lang/IndexOutOfBoundsException") (pre := []) (x := ⟨0, 26, 27, 35⟩) (suf := []) (vx_runV (As := [.int (nI j), .int (nI f)]) (rest := []) ⟨hx, hb, hml, hown, hts⟩ (c_X4_restore_b l hlt g ad t (nI j) (nI f) (Or.inr (Or.inr ⟨j, hj, rfl, hs⟩))) (cwV 2 hts gL_restored_X4_restore rfl rfl rfl (by decide +kernel) ⟨(Nat.le_of_ble_eq_true rfl), (Nat.le_of_ble_eq_true rfl)⟩) ⟨k_blind, k_recv hK hW (kc_0 g ad t) rfl, fun U hU hw => ⟨rfl, k_I.of hK hZ hN hS hW hU hw⟩⟩ rfl rfl hl.1 rfl (lv_room (Nat.le_of_ble_eq_true rfl)) dL_restored_3 ⟨(Nat.le_of_ble_eq_true rfl), (Nat.le_of_ble_eq_true rfl)⟩) hS hK hown (htab.trans rfl) (fun _ h9 => absurd h9 List.not_mem_nil) rfl (by decide) (hts (.classLink RL 35 "java/lang/IndexOutOfBoundsException") (by decide +kernel)) (by decide +kernel) (fun q9 H locs hW hS => ?_)
  refine lv_astore_n (lv' := [(3, .ref q9), (0, .ref (ad 0 0)), (1, .int (nI j)), (2, .int (nI f))]) hx hb dL_restored_27 rfl hl (by decide) rfl (fun ls hl => ?_)
  refine lv_bipush (v := (-5)) hx hb dL_restored_28 (by decide) ?_
  exact k_riY hQ hx hb hr hlk hS hW ⟨rfl, rfl⟩ (Nat.le_of_ble_eq_true rfl) (Nat.le_of_ble_eq_true rfl) dL_restored_30
abbrev rm_L_drilled : Room := { frames := 8, cells := 1, slots := 6, locals := 135 }
set_option maxRecDepth 100000 in
set_option maxHeartbeats 4000000 in
theorem cw_drill_b (l : Launch) (hlt : l.stackTraces = false) (g : k_g) (ad : k_AD) (t : k_T) (z : Int32) (hz : z < 0 ∨ nI 60 ≤ z ∨ ∃ j, j < 60 ∧ z = nI j ∧ s_th t j = false) : vx_Met l yL_drilled wsL_drilled rm_L_drilled (va_Pc [.ref (ad 0 0), .int z] (k_I g (k_ct g ad t) ad)) (va_Qi (fun r u => r = (-5) ∧ u = t) (fun u U => k_H g ad u U.heap) (k_A g)) (fun _ _ _ => False) 1 6 (k_A g) := by
  refine k_metH (cc := cL_drilled) (maxL := 3) (ret := (some .int)) (by decide) rfl (Nat.le_of_ble_eq_true rfl) (fun p e s m args below meth c Q ls hQ hx hb hr hml hts hown hlk htab hK hZ hN hW hS hl => ?_)
  have hown : s.vm.findClass RL = some m.cls := hown
  have hW : k_H g ad t s.heap := hW
  have hl : lv_has ls 3 [(0, .ref (ad 0 0)), (1, .int z)] := hl
  refine lv_aload_n hx hb dL_drilled_0 rfl (lv_at hl 0 rfl) ?_
  refine lv_iload_n hx hb dL_drilled_1 rfl (lv_at hl 1 rfl) ?_
  refine k_xc (E0 := "java/lang/IndexOutOfBoundsException") (pre := []) (x := ⟨0, 5, 6, 35⟩) (suf := []) (vx_runV (As := [.int z]) (rest := []) ⟨hx, hb, hml, hown, hts⟩ (c_X4_drill_b l hlt g ad t z hz) (cwV 1 hts gL_drilled_X4_drill rfl rfl rfl (by decide +kernel) ⟨(Nat.le_of_ble_eq_true rfl), (Nat.le_of_ble_eq_true rfl)⟩) ⟨k_blind, k_recv hK hW (kc_0 g ad t) rfl, fun U hU hw => ⟨rfl, k_I.of hK hZ hN hS hW hU hw⟩⟩ rfl rfl hl.1 rfl (lv_room (Nat.le_of_ble_eq_true rfl)) dL_drilled_2 ⟨(Nat.le_of_ble_eq_true rfl), (Nat.le_of_ble_eq_true rfl)⟩) hS hK hown (htab.trans rfl) (fun _ h9 => absurd h9 List.not_mem_nil) rfl (by decide) (hts (.classLink RL 35 "java/lang/IndexOutOfBoundsException") (by decide +kernel)) (by decide +kernel) (fun q9 H locs hW hS => ?_)
  refine lv_astore_n (lv' := [(2, .ref q9), (0, .ref (ad 0 0)), (1, .int z)]) hx hb dL_drilled_6 rfl hl (by decide) rfl (fun ls hl => ?_)
  refine lv_bipush (v := (-5)) hx hb dL_drilled_7 (by decide) ?_
  exact k_riY hQ hx hb hr hlk hS hW ⟨rfl, rfl⟩ (Nat.le_of_ble_eq_true rfl) (Nat.le_of_ble_eq_true rfl) dL_drilled_9
set_option maxRecDepth 100000 in
set_option maxHeartbeats 4000000 in
theorem cw_drill_ok (l : Launch) (hlt : l.stackTraces = false) (g : k_g) (ad : k_AD) (t : k_T) (j : Nat) (hj : j < 60) (hs : s_th t j = true) (hwf : ∀ j, s_th t j = true → j < o_n t) (hbs : ∀ k b, k < o_n t → o_b t k = some b → b < o_n t ∧ b < k) (ha : (k_cl (o_b t) j).any (o_dm t) = false) : vx_Met l yL_drilled wsL_drilled rm_L_drilled (va_Pc [.ref (ad 0 0), .int (nI j)] (k_I g (k_ct g ad t) ad)) (va_Qi (fun r u => r = nI ((k_cl (o_b t) j).length) ∧ u = set_o_pv t (fun j9 => if (k_cl (o_b t) j).contains j9 = true then true else (o_pv t) j9)) (fun u U => k_H g ad u U.heap) (k_A g)) (fun _ _ _ => False) 1 6 (k_A g) := by
  refine k_metH (cc := cL_drilled) (maxL := 3) (ret := (some .int)) (by decide) rfl (Nat.le_of_ble_eq_true rfl) (fun p e s m args below meth c Q ls hQ hx hb hr hml hts hown hlk htab hK hZ hN hW hS hl => ?_)
  have hown : s.vm.findClass RL = some m.cls := hown
  have hW : k_H g ad t s.heap := hW
  have hl : lv_has ls 3 [(0, .ref (ad 0 0)), (1, .int (nI j))] := hl
  refine lv_aload_n hx hb dL_drilled_0 rfl (lv_at hl 0 rfl) ?_
  refine lv_iload_n hx hb dL_drilled_1 rfl (lv_at hl 1 rfl) ?_
  refine k_ci (va_runV (As := [.int (nI j)]) (rest := []) ⟨hx, hb, hml, hown, hts⟩ (c_X4_drill_ok l hlt g ad t j hj hs hwf hbs ha) (cwV 1 hts gL_drilled_X4_drill rfl rfl rfl (by decide +kernel) ⟨(Nat.le_of_ble_eq_true rfl), (Nat.le_of_ble_eq_true rfl)⟩) ⟨k_blind, k_recv hK hW (kc_0 g ad t) rfl, fun U hU hw => ⟨rfl, k_I.of hK hZ hN hS hW hU hw⟩⟩ rfl rfl hl.1 rfl (lv_room (Nat.le_of_ble_eq_true rfl)) dL_drilled_2 ⟨(Nat.le_of_ble_eq_true rfl), (Nat.le_of_ble_eq_true rfl)⟩) hS (fun r u H locs hpo hW hS => ?_)
  obtain ⟨hr9, hu9⟩ := hpo; replace hu9 := hu9.symm; subst hu9; replace hr9 := hr9.symm; subst hr9
  have hW : k_H g ad (set_o_pv t (fun j9 => if (k_cl (o_b t) j).contains j9 = true then true else (o_pv t) j9)) H := hW
  exact k_riY hQ hx hb hr hlk hS hW ⟨rfl, rfl⟩ (Nat.le_of_ble_eq_true rfl) (Nat.le_of_ble_eq_true rfl) dL_drilled_5
set_option maxRecDepth 100000 in
set_option maxHeartbeats 4000000 in
theorem cw_drill_no (l : Launch) (hlt : l.stackTraces = false) (g : k_g) (ad : k_AD) (t : k_T) (j : Nat) (hj : j < 60) (hs : s_th t j = true) (hwf : ∀ j, s_th t j = true → j < o_n t) (hbs : ∀ k b, k < o_n t → o_b t k = some b → b < o_n t ∧ b < k) (ha : (k_cl (o_b t) j).any (o_dm t) = true) : vx_Met l yL_drilled wsL_drilled rm_L_drilled (va_Pc [.ref (ad 0 0), .int (nI j)] (k_I g (k_ct g ad t) ad)) (va_Qi (fun r u => r = (-1) ∧ u = set_o_pv t (fun j9 => if (k_cl (o_b t) j).contains j9 = true then false else (o_pv t) j9)) (fun u U => k_H g ad u U.heap) (k_A g)) (fun _ _ _ => False) 1 6 (k_A g) := by
  refine k_metH (cc := cL_drilled) (maxL := 3) (ret := (some .int)) (by decide) rfl (Nat.le_of_ble_eq_true rfl) (fun p e s m args below meth c Q ls hQ hx hb hr hml hts hown hlk htab hK hZ hN hW hS hl => ?_)
  have hown : s.vm.findClass RL = some m.cls := hown
  have hW : k_H g ad t s.heap := hW
  have hl : lv_has ls 3 [(0, .ref (ad 0 0)), (1, .int (nI j))] := hl
  refine lv_aload_n hx hb dL_drilled_0 rfl (lv_at hl 0 rfl) ?_
  refine lv_iload_n hx hb dL_drilled_1 rfl (lv_at hl 1 rfl) ?_
  refine k_ci (va_runV (As := [.int (nI j)]) (rest := []) ⟨hx, hb, hml, hown, hts⟩ (c_X4_drill_no l hlt g ad t j hj hs hwf hbs ha) (cwV 1 hts gL_drilled_X4_drill rfl rfl rfl (by decide +kernel) ⟨(Nat.le_of_ble_eq_true rfl), (Nat.le_of_ble_eq_true rfl)⟩) ⟨k_blind, k_recv hK hW (kc_0 g ad t) rfl, fun U hU hw => ⟨rfl, k_I.of hK hZ hN hS hW hU hw⟩⟩ rfl rfl hl.1 rfl (lv_room (Nat.le_of_ble_eq_true rfl)) dL_drilled_2 ⟨(Nat.le_of_ble_eq_true rfl), (Nat.le_of_ble_eq_true rfl)⟩) hS (fun r u H locs hpo hW hS => ?_)
  obtain ⟨hr9, hu9⟩ := hpo; replace hu9 := hu9.symm; subst hu9; replace hr9 := hr9.symm; subst hr9
  have hW : k_H g ad (set_o_pv t (fun j9 => if (k_cl (o_b t) j).contains j9 = true then false else (o_pv t) j9)) H := hW
  exact k_riY hQ hx hb hr hlk hS hW ⟨rfl, rfl⟩ (Nat.le_of_ble_eq_true rfl) (Nat.le_of_ble_eq_true rfl) dL_drilled_5
abbrev rm_L_damaged : Room := { frames := 8, cells := 1, slots := 6, locals := 134 }
set_option maxRecDepth 100000 in
set_option maxHeartbeats 4000000 in
theorem cw_damage_b (l : Launch) (hlt : l.stackTraces = false) (g : k_g) (ad : k_AD) (t : k_T) (z : Int32) (hz : z < 0 ∨ nI 60 ≤ z ∨ ∃ j, j < 60 ∧ z = nI j ∧ s_th t j = false) : vx_Met l yL_damaged wsL_damaged rm_L_damaged (va_Pc [.ref (ad 0 0), .int z] (k_I g (k_ct g ad t) ad)) (va_Qi (fun r u => r = (-5) ∧ u = t) (fun u U => k_H g ad u U.heap) (k_A g)) (fun _ _ _ => False) 1 6 (k_A g) := by
  refine k_metH (cc := cL_damaged) (maxL := 3) (ret := (some .int)) (by decide) rfl (Nat.le_of_ble_eq_true rfl) (fun p e s m args below meth c Q ls hQ hx hb hr hml hts hown hlk htab hK hZ hN hW hS hl => ?_)
  have hown : s.vm.findClass RL = some m.cls := hown
  have hW : k_H g ad t s.heap := hW
  have hl : lv_has ls 3 [(0, .ref (ad 0 0)), (1, .int z)] := hl
  refine lv_aload_n hx hb dL_damaged_0 rfl (lv_at hl 0 rfl) ?_
  refine lv_iload_n hx hb dL_damaged_1 rfl (lv_at hl 1 rfl) ?_
  refine k_xc (E0 := "java/lang/IndexOutOfBoundsException") (pre := []) (x := ⟨0, 5, 6, 35⟩) (suf := []) (vx_runV (As := [.int z]) (rest := []) ⟨hx, hb, hml, hown, hts⟩ (c_X4_damage_b l hlt g ad t z hz) (cwV 1 hts gL_damaged_X4_damage rfl rfl rfl (by decide +kernel) ⟨(Nat.le_of_ble_eq_true rfl), (Nat.le_of_ble_eq_true rfl)⟩) ⟨k_blind, k_recv hK hW (kc_0 g ad t) rfl, fun U hU hw => ⟨rfl, k_I.of hK hZ hN hS hW hU hw⟩⟩ rfl rfl hl.1 rfl (lv_room (Nat.le_of_ble_eq_true rfl)) dL_damaged_2 ⟨(Nat.le_of_ble_eq_true rfl), (Nat.le_of_ble_eq_true rfl)⟩) hS hK hown (htab.trans rfl) (fun _ h9 => absurd h9 List.not_mem_nil) rfl (by decide) (hts (.classLink RL 35 "java/lang/IndexOutOfBoundsException") (by decide +kernel)) (by decide +kernel) (fun q9 H locs hW hS => ?_)
  refine lv_astore_n (lv' := [(2, .ref q9), (0, .ref (ad 0 0)), (1, .int z)]) hx hb dL_damaged_6 rfl hl (by decide) rfl (fun ls hl => ?_)
  refine lv_bipush (v := (-5)) hx hb dL_damaged_7 (by decide) ?_
  exact k_riY hQ hx hb hr hlk hS hW ⟨rfl, rfl⟩ (Nat.le_of_ble_eq_true rfl) (Nat.le_of_ble_eq_true rfl) dL_damaged_9
set_option maxRecDepth 100000 in
set_option maxHeartbeats 4000000 in
theorem cw_damage_ok (l : Launch) (hlt : l.stackTraces = false) (g : k_g) (ad : k_AD) (t : k_T) (j : Nat) (hj : j < 60) (hs : s_th t j = true) (hwf : ∀ j, s_th t j = true → j < o_n t) (hbs : ∀ k b, k < o_n t → o_b t k = some b → b < o_n t ∧ b < k) (hth : ∀ j b, s_th t j = true → o_b t j = some b → s_th t b = true) (hn60 : o_n t ≤ 60) (hon : ∀ j, j < o_n t → o_on t j ≤ 360) (hr1 : s_r1 t ≤ 30) (hr2 : s_r2 t ≤ 30) (hr3 : s_r3 t ≤ 30) : vx_Met l yL_damaged wsL_damaged rm_L_damaged (va_Pc [.ref (ad 0 0), .int (nI j)] (k_I g (k_ct g ad t) ad)) (va_Qi (fun r u => r = nI (k_cb (fun k => ((s_th t) k && (k_Pm (s_th t) (o_pm t) (o_on t) (s_r1 t) (s_r2 t) (s_r3 t)) k) && (k_cl (o_b t) k).any (va_up (o_dm t) j true)) 60) ∧ u = set_o_nd (set_o_pm (set_o_pv (set_o_dm t (va_up (o_dm t) j true)) (va_up (o_pv t) j false)) (k_Pm (s_th t) (o_pm t) (o_on t) (s_r1 t) (s_r2 t) (s_r3 t))) (k_Nm (s_th t) (o_nd t) (k_Pm (s_th t) (o_pm t) (o_on t) (s_r1 t) (s_r2 t) (s_r3 t)) (o_b t))) (fun u U => k_H g ad u U.heap) (k_A g)) (fun _ _ _ => False) 1 6 (k_A g) := by
  refine k_metH (cc := cL_damaged) (maxL := 3) (ret := (some .int)) (by decide) rfl (Nat.le_of_ble_eq_true rfl) (fun p e s m args below meth c Q ls hQ hx hb hr hml hts hown hlk htab hK hZ hN hW hS hl => ?_)
  have hown : s.vm.findClass RL = some m.cls := hown
  have hW : k_H g ad t s.heap := hW
  have hl : lv_has ls 3 [(0, .ref (ad 0 0)), (1, .int (nI j))] := hl
  refine lv_aload_n hx hb dL_damaged_0 rfl (lv_at hl 0 rfl) ?_
  refine lv_iload_n hx hb dL_damaged_1 rfl (lv_at hl 1 rfl) ?_
  refine k_ci (va_runV (As := [.int (nI j)]) (rest := []) ⟨hx, hb, hml, hown, hts⟩ (c_X4_damage_ok l hlt g ad t j hj hs hwf hbs hth hn60 hon hr1 hr2 hr3) (cwV 1 hts gL_damaged_X4_damage rfl rfl rfl (by decide +kernel) ⟨(Nat.le_of_ble_eq_true rfl), (Nat.le_of_ble_eq_true rfl)⟩) ⟨k_blind, k_recv hK hW (kc_0 g ad t) rfl, fun U hU hw => ⟨rfl, k_I.of hK hZ hN hS hW hU hw⟩⟩ rfl rfl hl.1 rfl (lv_room (Nat.le_of_ble_eq_true rfl)) dL_damaged_2 ⟨(Nat.le_of_ble_eq_true rfl), (Nat.le_of_ble_eq_true rfl)⟩) hS (fun r u H locs hpo hW hS => ?_)
  obtain ⟨hr9, hu9⟩ := hpo; replace hu9 := hu9.symm; subst hu9; replace hr9 := hr9.symm; subst hr9
  have hW : k_H g ad (set_o_nd (set_o_pm (set_o_pv (set_o_dm t (va_up (o_dm t) j true)) (va_up (o_pv t) j false)) (k_Pm (s_th t) (o_pm t) (o_on t) (s_r1 t) (s_r2 t) (s_r3 t))) (k_Nm (s_th t) (o_nd t) (k_Pm (s_th t) (o_pm t) (o_on t) (s_r1 t) (s_r2 t) (s_r3 t)) (o_b t))) H := hW
  exact k_riY hQ hx hb hr hlk hS hW ⟨rfl, rfl⟩ (Nat.le_of_ble_eq_true rfl) (Nat.le_of_ble_eq_true rfl) dL_damaged_5
abbrev rm_L_swapped : Room := { frames := 7, cells := 2, slots := 12, locals := 112 }
set_option maxRecDepth 100000 in
set_option maxHeartbeats 4000000 in
theorem cw_swap_b1 (l : Launch) (hlt : l.stackTraces = false) (g : k_g) (ad : k_AD) (t : k_T) (z : Int32) (y : Int32) (hd : x_d t ≤ 360) (hz : z < nI (x_d t) ∨ nI 364 < z) : vx_Met l yL_swapped wsL_swapped rm_L_swapped (va_Pc [.ref (ad 0 0), .int z, .int y] (k_I g (k_ct g ad t) ad)) (va_Qi (fun r u => r = (-4) ∧ u = t) (fun u U => k_H g ad u U.heap) (k_A g)) (fun _ _ _ => False) 2 12 (k_A g) := by
  refine k_metH (cc := cL_swapped) (maxL := 4) (ret := (some .int)) (by decide) rfl (Nat.le_of_ble_eq_true rfl) (fun p e s m args below meth c Q ls hQ hx hb hr hml hts hown hlk htab hK hZ hN hW hS hl => ?_)
  have hown : s.vm.findClass RL = some m.cls := hown
  have hW : k_H g ad t s.heap := hW
  have hl : lv_has ls 4 [(0, .ref (ad 0 0)), (1, .int z), (2, .int y)] := hl
  refine lv_aload_n hx hb dL_swapped_0 rfl (lv_at hl 0 rfl) ?_
  refine lv_iload_n hx hb dL_swapped_1 rfl (lv_at hl 1 rfl) ?_
  refine lv_iload_n hx hb dL_swapped_2 rfl (lv_at hl 2 rfl) ?_
  refine k_xc (E0 := "java/lang/IllegalArgumentException") (pre := []) (x := ⟨0, 6, 7, 69⟩) (suf := [⟨0, 6, 11, 64⟩]) (vx_runV (As := [.int z, .int y]) (rest := []) ⟨hx, hb, hml, hown, hts⟩ (c_X4_swap_b1 l hlt g ad t z y hd hz) (cwV 2 hts gL_swapped_X4_swap rfl rfl rfl (by decide +kernel) ⟨(Nat.le_of_ble_eq_true rfl), (Nat.le_of_ble_eq_true rfl)⟩) ⟨k_blind, k_recv hK hW (kc_0 g ad t) rfl, fun U hU hw => ⟨rfl, k_I.of hK hZ hN hS hW hU hw⟩⟩ rfl rfl hl.1 rfl (lv_room (Nat.le_of_ble_eq_true rfl)) dL_swapped_3 ⟨(Nat.le_of_ble_eq_true rfl), (Nat.le_of_ble_eq_true rfl)⟩) hS hK hown (htab.trans rfl) (fun _ h9 => absurd h9 List.not_mem_nil) rfl (by decide) (hts (.classLink RL 69 "java/lang/IllegalArgumentException") (by decide +kernel)) (by decide +kernel) (fun q9 H locs hW hS => ?_)
  refine lv_astore_n (lv' := [(3, .ref q9), (0, .ref (ad 0 0)), (1, .int z), (2, .int y)]) hx hb dL_swapped_7 rfl hl (by decide) rfl (fun ls hl => ?_)
  refine lv_bipush (v := (-4)) hx hb dL_swapped_8 (by decide) ?_
  exact k_riY hQ hx hb hr hlk hS hW ⟨rfl, rfl⟩ (Nat.le_of_ble_eq_true rfl) (Nat.le_of_ble_eq_true rfl) dL_swapped_10
set_option maxRecDepth 100000 in
set_option maxHeartbeats 4000000 in
theorem cw_swap_b2 (l : Launch) (hlt : l.stackTraces = false) (g : k_g) (ad : k_AD) (t : k_T) (j : Nat) (z : Int32) (hd : x_d t ≤ 360) (h1 : x_d t ≤ j) (h2 : j ≤ 364) (hz : z < nI (x_d t) ∨ nI 364 < z) : vx_Met l yL_swapped wsL_swapped rm_L_swapped (va_Pc [.ref (ad 0 0), .int (nI j), .int z] (k_I g (k_ct g ad t) ad)) (va_Qi (fun r u => r = (-4) ∧ u = t) (fun u U => k_H g ad u U.heap) (k_A g)) (fun _ _ _ => False) 2 12 (k_A g) := by
  refine k_metH (cc := cL_swapped) (maxL := 4) (ret := (some .int)) (by decide) rfl (Nat.le_of_ble_eq_true rfl) (fun p e s m args below meth c Q ls hQ hx hb hr hml hts hown hlk htab hK hZ hN hW hS hl => ?_)
  have hown : s.vm.findClass RL = some m.cls := hown
  have hW : k_H g ad t s.heap := hW
  have hl : lv_has ls 4 [(0, .ref (ad 0 0)), (1, .int (nI j)), (2, .int z)] := hl
  refine lv_aload_n hx hb dL_swapped_0 rfl (lv_at hl 0 rfl) ?_
  refine lv_iload_n hx hb dL_swapped_1 rfl (lv_at hl 1 rfl) ?_
  refine lv_iload_n hx hb dL_swapped_2 rfl (lv_at hl 2 rfl) ?_
  refine k_xc (E0 := "java/lang/IllegalArgumentException") (pre := []) (x := ⟨0, 6, 7, 69⟩) (suf := [⟨0, 6, 11, 64⟩]) (vx_runV (As := [.int (nI j), .int z]) (rest := []) ⟨hx, hb, hml, hown, hts⟩ (c_X4_swap_b2 l hlt g ad t j z hd h1 h2 hz) (cwV 2 hts gL_swapped_X4_swap rfl rfl rfl (by decide +kernel) ⟨(Nat.le_of_ble_eq_true rfl), (Nat.le_of_ble_eq_true rfl)⟩) ⟨k_blind, k_recv hK hW (kc_0 g ad t) rfl, fun U hU hw => ⟨rfl, k_I.of hK hZ hN hS hW hU hw⟩⟩ rfl rfl hl.1 rfl (lv_room (Nat.le_of_ble_eq_true rfl)) dL_swapped_3 ⟨(Nat.le_of_ble_eq_true rfl), (Nat.le_of_ble_eq_true rfl)⟩) hS hK hown (htab.trans rfl) (fun _ h9 => absurd h9 List.not_mem_nil) rfl (by decide) (hts (.classLink RL 69 "java/lang/IllegalArgumentException") (by decide +kernel)) (by decide +kernel) (fun q9 H locs hW hS => ?_)
  refine lv_astore_n (lv' := [(3, .ref q9), (0, .ref (ad 0 0)), (1, .int (nI j)), (2, .int z)]) hx hb dL_swapped_7 rfl hl (by decide) rfl (fun ls hl => ?_)
  refine lv_bipush (v := (-4)) hx hb dL_swapped_8 (by decide) ?_
  exact k_riY hQ hx hb hr hlk hS hW ⟨rfl, rfl⟩ (Nat.le_of_ble_eq_true rfl) (Nat.le_of_ble_eq_true rfl) dL_swapped_10
set_option maxRecDepth 100000 in
set_option maxHeartbeats 4000000 in
theorem cw_swap_b3 (l : Launch) (hlt : l.stackTraces = false) (g : k_g) (ad : k_AD) (t : k_T) (j : Nat) (hd : x_d t ≤ 360) (h1 : x_d t ≤ j) (h2 : j ≤ 364) : vx_Met l yL_swapped wsL_swapped rm_L_swapped (va_Pc [.ref (ad 0 0), .int (nI j), .int (nI j)] (k_I g (k_ct g ad t) ad)) (va_Qi (fun r u => r = (-4) ∧ u = t) (fun u U => k_H g ad u U.heap) (k_A g)) (fun _ _ _ => False) 2 12 (k_A g) := by
  refine k_metH (cc := cL_swapped) (maxL := 4) (ret := (some .int)) (by decide) rfl (Nat.le_of_ble_eq_true rfl) (fun p e s m args below meth c Q ls hQ hx hb hr hml hts hown hlk htab hK hZ hN hW hS hl => ?_)
  have hown : s.vm.findClass RL = some m.cls := hown
  have hW : k_H g ad t s.heap := hW
  have hl : lv_has ls 4 [(0, .ref (ad 0 0)), (1, .int (nI j)), (2, .int (nI j))] := hl
  refine lv_aload_n hx hb dL_swapped_0 rfl (lv_at hl 0 rfl) ?_
  refine lv_iload_n hx hb dL_swapped_1 rfl (lv_at hl 1 rfl) ?_
  refine lv_iload_n hx hb dL_swapped_2 rfl (lv_at hl 2 rfl) ?_
  refine k_xc (E0 := "java/lang/IllegalArgumentException") (pre := []) (x := ⟨0, 6, 7, 69⟩) (suf := [⟨0, 6, 11, 64⟩]) (vx_runV (As := [.int (nI j), .int (nI j)]) (rest := []) ⟨hx, hb, hml, hown, hts⟩ (c_X4_swap_b3 l hlt g ad t j hd h1 h2) (cwV 2 hts gL_swapped_X4_swap rfl rfl rfl (by decide +kernel) ⟨(Nat.le_of_ble_eq_true rfl), (Nat.le_of_ble_eq_true rfl)⟩) ⟨k_blind, k_recv hK hW (kc_0 g ad t) rfl, fun U hU hw => ⟨rfl, k_I.of hK hZ hN hS hW hU hw⟩⟩ rfl rfl hl.1 rfl (lv_room (Nat.le_of_ble_eq_true rfl)) dL_swapped_3 ⟨(Nat.le_of_ble_eq_true rfl), (Nat.le_of_ble_eq_true rfl)⟩) hS hK hown (htab.trans rfl) (fun _ h9 => absurd h9 List.not_mem_nil) rfl (by decide) (hts (.classLink RL 69 "java/lang/IllegalArgumentException") (by decide +kernel)) (by decide +kernel) (fun q9 H locs hW hS => ?_)
  refine lv_astore_n (lv' := [(3, .ref q9), (0, .ref (ad 0 0)), (1, .int (nI j)), (2, .int (nI j))]) hx hb dL_swapped_7 rfl hl (by decide) rfl (fun ls hl => ?_)
  refine lv_bipush (v := (-4)) hx hb dL_swapped_8 (by decide) ?_
  exact k_riY hQ hx hb hr hlk hS hW ⟨rfl, rfl⟩ (Nat.le_of_ble_eq_true rfl) (Nat.le_of_ble_eq_true rfl) dL_swapped_10
set_option maxRecDepth 100000 in
set_option maxHeartbeats 4000000 in
theorem cw_swap_is (l : Launch) (hlt : l.stackTraces = false) (g : k_g) (ad : k_AD) (t : k_T) (j : Nat) (k : Nat) (hd : x_d t ≤ 360) (h1 : x_d t ≤ j) (h2 : j ≤ 364) (h3 : x_d t ≤ k) (h4 : k ≤ 364) (hne : j ≠ k) (hp : ∀ i, i < 365 → r_p t i < 5) (hno : (k_rest (k_ex (r_p t) j k) j && k_rest (k_ex (r_p t) j k) k) = false) : vx_Met l yL_swapped wsL_swapped rm_L_swapped (va_Pc [.ref (ad 0 0), .int (nI j), .int (nI k)] (k_I g (k_ct g ad t) ad)) (va_Qi (fun r u => r = (-5) ∧ u = t) (fun u U => k_H g ad u U.heap) (k_A g)) (fun _ _ _ => False) 2 12 (k_A g) := by
  refine k_metH (cc := cL_swapped) (maxL := 4) (ret := (some .int)) (by decide) rfl (Nat.le_of_ble_eq_true rfl) (fun p e s m args below meth c Q ls hQ hx hb hr hml hts hown hlk htab hK hZ hN hW hS hl => ?_)
  have hown : s.vm.findClass RL = some m.cls := hown
  have hW : k_H g ad t s.heap := hW
  have hl : lv_has ls 4 [(0, .ref (ad 0 0)), (1, .int (nI j)), (2, .int (nI k))] := hl
  refine lv_aload_n hx hb dL_swapped_0 rfl (lv_at hl 0 rfl) ?_
  refine lv_iload_n hx hb dL_swapped_1 rfl (lv_at hl 1 rfl) ?_
  refine lv_iload_n hx hb dL_swapped_2 rfl (lv_at hl 2 rfl) ?_
  refine k_xc (E0 := "java/lang/IllegalStateException") (pre := [⟨0, 6, 7, 69⟩]) (x := ⟨0, 6, 11, 64⟩) (suf := []) (vx_runV (As := [.int (nI j), .int (nI k)]) (rest := []) ⟨hx, hb, hml, hown, hts⟩ (c_X4_swap_is l hlt g ad t j k hd h1 h2 h3 h4 hne hp hno) (cwV 2 hts gL_swapped_X4_swap rfl rfl rfl (by decide +kernel) ⟨(Nat.le_of_ble_eq_true rfl), (Nat.le_of_ble_eq_true rfl)⟩) ⟨k_blind, k_recv hK hW (kc_0 g ad t) rfl, fun U hU hw => ⟨rfl, k_I.of hK hZ hN hS hW hU hw⟩⟩ rfl rfl hl.1 rfl (lv_room (Nat.le_of_ble_eq_true rfl)) dL_swapped_3 ⟨(Nat.le_of_ble_eq_true rfl), (Nat.le_of_ble_eq_true rfl)⟩) hS hK hown (htab.trans rfl) (List.forall_mem_cons.mpr ⟨⟨by decide, "java/lang/IllegalArgumentException", hts (.classLink RL 69 "java/lang/IllegalArgumentException") (by decide +kernel), by decide +kernel⟩, (fun _ h9 => absurd h9 List.not_mem_nil)⟩) rfl (by decide) (hts (.classLink RL 64 "java/lang/IllegalStateException") (by decide +kernel)) (by decide +kernel) (fun q9 H locs hW hS => ?_)
  refine lv_astore_n (lv' := [(3, .ref q9), (0, .ref (ad 0 0)), (1, .int (nI j)), (2, .int (nI k))]) hx hb dL_swapped_11 rfl hl (by decide) rfl (fun ls hl => ?_)
  refine lv_bipush (v := (-5)) hx hb dL_swapped_12 (by decide) ?_
  exact k_riY hQ hx hb hr hlk hS hW ⟨rfl, rfl⟩ (Nat.le_of_ble_eq_true rfl) (Nat.le_of_ble_eq_true rfl) dL_swapped_14
set_option maxRecDepth 100000 in
set_option maxHeartbeats 4000000 in
theorem cw_swap_ok (l : Launch) (hlt : l.stackTraces = false) (g : k_g) (ad : k_AD) (t : k_T) (j : Nat) (k : Nat) (hd : x_d t ≤ 360) (h1 : x_d t ≤ j) (h2 : j ≤ 364) (h3 : x_d t ≤ k) (h4 : k ≤ 364) (hne : j ≠ k) (hp : ∀ i, i < 365 → r_p t i < 5) (h5 : k_rest (k_ex (r_p t) j k) j = true) (h6 : k_rest (k_ex (r_p t) j k) k = true) : vx_Met l yL_swapped wsL_swapped rm_L_swapped (va_Pc [.ref (ad 0 0), .int (nI j), .int (nI k)] (k_I g (k_ct g ad t) ad)) (va_Qi (fun r u => r = nI (k_ex (r_p t) j k j) ∧ u = set_r_p t (k_ex (r_p t) j k)) (fun u U => k_H g ad u U.heap) (k_A g)) (fun _ _ _ => False) 2 12 (k_A g) := by
  refine k_metH (cc := cL_swapped) (maxL := 4) (ret := (some .int)) (by decide) rfl (Nat.le_of_ble_eq_true rfl) (fun p e s m args below meth c Q ls hQ hx hb hr hml hts hown hlk htab hK hZ hN hW hS hl => ?_)
  have hown : s.vm.findClass RL = some m.cls := hown
  have hW : k_H g ad t s.heap := hW
  have hl : lv_has ls 4 [(0, .ref (ad 0 0)), (1, .int (nI j)), (2, .int (nI k))] := hl
  refine lv_aload_n hx hb dL_swapped_0 rfl (lv_at hl 0 rfl) ?_
  refine lv_iload_n hx hb dL_swapped_1 rfl (lv_at hl 1 rfl) ?_
  refine lv_iload_n hx hb dL_swapped_2 rfl (lv_at hl 2 rfl) ?_
  refine k_ci (va_runV (As := [.int (nI j), .int (nI k)]) (rest := []) ⟨hx, hb, hml, hown, hts⟩ (c_X4_swap_ok l hlt g ad t j k hd h1 h2 h3 h4 hne hp h5 h6) (cwV 2 hts gL_swapped_X4_swap rfl rfl rfl (by decide +kernel) ⟨(Nat.le_of_ble_eq_true rfl), (Nat.le_of_ble_eq_true rfl)⟩) ⟨k_blind, k_recv hK hW (kc_0 g ad t) rfl, fun U hU hw => ⟨rfl, k_I.of hK hZ hN hS hW hU hw⟩⟩ rfl rfl hl.1 rfl (lv_room (Nat.le_of_ble_eq_true rfl)) dL_swapped_3 ⟨(Nat.le_of_ble_eq_true rfl), (Nat.le_of_ble_eq_true rfl)⟩) hS (fun r u H locs hpo hW hS => ?_)
  obtain ⟨hr9, hu9⟩ := hpo; replace hu9 := hu9.symm; subst hu9; replace hr9 := hr9.symm; subst hr9
  have hW : k_H g ad (set_r_p t (k_ex (r_p t) j k)) H := hW
  exact k_riY hQ hx hb hr hlk hS hW ⟨rfl, rfl⟩ (Nat.le_of_ble_eq_true rfl) (Nat.le_of_ble_eq_true rfl) dL_swapped_6
abbrev rm_L_incremented : Room := { frames := 7, cells := 3, slots := 27, locals := 112 }
set_option maxRecDepth 100000 in
set_option maxHeartbeats 4000000 in
theorem cw_increment_is (l : Launch) (hlt : l.stackTraces = false) (g : k_g) (ad : k_AD) (t : k_T) (hm : s_md t ≤ 60) (hbs : ∀ k b, k < o_n t → o_b t k = some b → b < o_n t ∧ b < k) (hz : s_md t = 60 ∨ k_la (s_th t) 60 = none) : vx_Met l yL_incremented wsL_incremented rm_L_incremented (va_Pc [.ref (ad 0 0)] (k_I g (k_ct g ad t) ad)) (va_Qi (fun r u => r = (-5) ∧ u = t) (fun u U => k_H g ad u U.heap) (k_A g)) (fun _ _ _ => False) 3 27 (k_A g) := by
  refine k_metH (cc := cL_incremented) (maxL := 2) (ret := (some .int)) (by decide) rfl (Nat.le_of_ble_eq_true rfl) (fun p e s m args below meth c Q ls hQ hx hb hr hml hts hown hlk htab hK hZ hN hW hS hl => ?_)
  have hown : s.vm.findClass RL = some m.cls := hown
  have hW : k_H g ad t s.heap := hW
  have hl : lv_has ls 2 [(0, .ref (ad 0 0))] := hl
  refine lv_aload_n hx hb dL_incremented_0 rfl (lv_at hl 0 rfl) ?_
  refine k_xc (E0 := "java/lang/IllegalStateException") (pre := []) (x := ⟨0, 4, 5, 64⟩) (suf := []) (vx_runV (As := []) (rest := []) ⟨hx, hb, hml, hown, hts⟩ (c_X4_increment_is l hlt g ad t hm hbs hz) (cwV 0 hts gL_incremented_X4_increment rfl rfl rfl (by decide +kernel) ⟨(Nat.le_of_ble_eq_true rfl), (Nat.le_of_ble_eq_true rfl)⟩) ⟨k_blind, k_recv hK hW (kc_0 g ad t) rfl, fun U hU hw => ⟨rfl, k_I.of hK hZ hN hS hW hU hw⟩⟩ rfl rfl hl.1 rfl (lv_room (Nat.le_of_ble_eq_true rfl)) dL_incremented_1 ⟨(Nat.le_of_ble_eq_true rfl), (Nat.le_of_ble_eq_true rfl)⟩) hS hK hown (htab.trans rfl) (fun _ h9 => absurd h9 List.not_mem_nil) rfl (by decide) (hts (.classLink RL 64 "java/lang/IllegalStateException") (by decide +kernel)) (by decide +kernel) (fun q9 H locs hW hS => ?_)
  refine lv_astore_n (lv' := [(1, .ref q9), (0, .ref (ad 0 0))]) hx hb dL_incremented_5 rfl hl (by decide) rfl (fun ls hl => ?_)
  refine lv_bipush (v := (-5)) hx hb dL_incremented_6 (by decide) ?_
  exact k_riY hQ hx hb hr hlk hS hW ⟨rfl, rfl⟩ (Nat.le_of_ble_eq_true rfl) (Nat.le_of_ble_eq_true rfl) dL_incremented_8
set_option maxRecDepth 100000 in
set_option maxHeartbeats 4000000 in
theorem cw_increment_ok (l : Launch) (hlt : l.stackTraces = false) (g : k_g) (ad : k_AD) (t : k_T) (b0 : Nat) (hm : s_md t < 60) (hmo : o_n t = s_md t) (hfc : ∀ j, j < 10 → f_c t j ≠ -1) (hwf : ∀ j, s_th t j = true → j < o_n t) (hbs : ∀ k b, k < o_n t → o_b t k = some b → b < o_n t ∧ b < k) (hla : k_la (s_th t) 60 = some b0) (hb0 : b0 < s_md t) (hca : o_ca t b0 ≤ f_n t) (hn : f_n t ≤ 300) (hlf : ∀ i, i < f_n t → f_lf t i < 10) : vx_Met l yL_incremented wsL_incremented rm_L_incremented (va_Pc [.ref (ad 0 0)] (k_I g (k_ct g ad t) ad)) (va_Qi (S := k_T × k_AD) (fun r u => r = nI (s_md t) ∧ u.1 = set_s_md (set_s_th (set_o_k (set_o_kc (set_o_n (set_o_hd (set_o_nd (set_o_pm (set_o_pv (set_o_dm (set_o_ca (set_o_b (set_o_on t (va_up (o_on t) (s_md t) (x_d t))) (va_up (o_b t) (s_md t) (some b0))) (va_up (o_ca t) (s_md t) (f_n t))) (va_up (o_dm t) (s_md t) false)) (va_up (o_pv t) (s_md t) false)) (va_up (o_pm t) (s_md t) false)) (va_up (o_nd t) (s_md t) false)) (va_up (o_hd t) (s_md t) false)) (s_md t + 1)) (va_up (o_kc t) (s_md t) (k_cnt (fun j => if k_chd (f_lf t) (o_ca t b0) (f_n t) j = true then (f_c t) j else k_K0 j)))) (va_up (o_k t) (s_md t) (fun j => if k_chd (f_lf t) (o_ca t b0) (f_n t) j = true then (f_c t) j else k_K0 j))) (va_up (s_th t) (s_md t) true)) (s_md t + 1) ∧ ∀ a b, ¬ (a = 25 ∧ b = s_md t) → ¬ (a = 26 ∧ b = s_md t) → u.2 a b = ad a b) (fun u U => k_H g u.2 u.1 U.heap) (k_A g)) (fun _ _ _ => False) 3 27 (k_A g) := by
  refine k_metH (cc := cL_incremented) (maxL := 2) (ret := (some .int)) (by decide) rfl (Nat.le_of_ble_eq_true rfl) (fun p e s m args below meth c Q ls hQ hx hb hr hml hts hown hlk htab hK hZ hN hW hS hl => ?_)
  have hown : s.vm.findClass RL = some m.cls := hown
  have hW : k_H g ad t s.heap := hW
  have hl : lv_has ls 2 [(0, .ref (ad 0 0))] := hl
  refine lv_aload_n hx hb dL_incremented_0 rfl (lv_at hl 0 rfl) ?_
  refine k_ciA (va_runV (As := []) (rest := []) ⟨hx, hb, hml, hown, hts⟩ (c_X4_increment_ok l hlt g ad t b0 hm hmo hfc hwf hbs hla hb0 hca hn hlf) (cwV 0 hts gL_incremented_X4_increment rfl rfl rfl (by decide +kernel) ⟨(Nat.le_of_ble_eq_true rfl), (Nat.le_of_ble_eq_true rfl)⟩) ⟨k_blind, k_recv hK hW (kc_0 g ad t) rfl, fun U hU hw => ⟨rfl, k_I.of hK hZ hN hS hW hU hw⟩⟩ rfl rfl hl.1 rfl (lv_room (Nat.le_of_ble_eq_true rfl)) dL_incremented_1 ⟨(Nat.le_of_ble_eq_true rfl), (Nat.le_of_ble_eq_true rfl)⟩) hS (fun r u H locs hpo hW hS => ?_)
  obtain ⟨u1, ad⟩ := u
  obtain ⟨hr9, hu9, hadp⟩ := hpo
  replace hu9 := hu9.symm
  subst hr9
  have hW : k_H g ad (set_s_md (set_s_th (set_o_k (set_o_kc (set_o_n (set_o_hd (set_o_nd (set_o_pm (set_o_pv (set_o_dm (set_o_ca (set_o_b (set_o_on t (va_up (o_on t) (s_md t) (x_d t))) (va_up (o_b t) (s_md t) (some b0))) (va_up (o_ca t) (s_md t) (f_n t))) (va_up (o_dm t) (s_md t) false)) (va_up (o_pv t) (s_md t) false)) (va_up (o_pm t) (s_md t) false)) (va_up (o_nd t) (s_md t) false)) (va_up (o_hd t) (s_md t) false)) (s_md t + 1)) (va_up (o_kc t) (s_md t) (k_cnt (fun j => if k_chd (f_lf t) (o_ca t b0) (f_n t) j = true then (f_c t) j else k_K0 j)))) (va_up (o_k t) (s_md t) (fun j => if k_chd (f_lf t) (o_ca t b0) (f_n t) j = true then (f_c t) j else k_K0 j))) (va_up (s_th t) (s_md t) true)) (s_md t + 1)) H := by rw [show (set_s_md (set_s_th (set_o_k (set_o_kc (set_o_n (set_o_hd (set_o_nd (set_o_pm (set_o_pv (set_o_dm (set_o_ca (set_o_b (set_o_on t (va_up (o_on t) (s_md t) (x_d t))) (va_up (o_b t) (s_md t) (some b0))) (va_up (o_ca t) (s_md t) (f_n t))) (va_up (o_dm t) (s_md t) false)) (va_up (o_pv t) (s_md t) false)) (va_up (o_pm t) (s_md t) false)) (va_up (o_nd t) (s_md t) false)) (va_up (o_hd t) (s_md t) false)) (s_md t + 1)) (va_up (o_kc t) (s_md t) (k_cnt (fun j => if k_chd (f_lf t) (o_ca t b0) (f_n t) j = true then (f_c t) j else k_K0 j)))) (va_up (o_k t) (s_md t) (fun j => if k_chd (f_lf t) (o_ca t b0) (f_n t) j = true then (f_c t) j else k_K0 j))) (va_up (s_th t) (s_md t) true)) (s_md t + 1)) = u1 from hu9]; exact hW
  exact k_riX hQ hx hb hr hlk hS hW ⟨rfl, rfl, hadp⟩ (Nat.le_of_ble_eq_true rfl) (Nat.le_of_ble_eq_true rfl) dL_incremented_4
