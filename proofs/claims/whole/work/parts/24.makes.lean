abbrev rm_X5_makes : Room := { frames := 0, cells := 0, slots := 0, locals := 0 }
set_option maxRecDepth 100000 in
set_option maxHeartbeats 4000000 in
theorem c_X5_makes_n (l : Launch) (hlt : l.stackTraces = false) (g : k_g) (ad : k_AD) (t : k_T) (hm : m_md t < 60) (hsz : m_sz t (m_md t) = 0) (hn3 : m_n t ≤ 300) : Met l yX5_makes wsX5_makes rm_X5_makes (va_Pc [.ref (ad 9 0), .int (-1)] (k_I g (k_ct g ad t) ad)) (va_Qi (fun r u => r = nI (m_md t) ∧ u = set_m_md (set_m_th (set_m_sz (set_m_k (set_m_at (set_m_b (set_m_on t (va_up (m_on t) (m_md t) (m_d t))) (va_up (m_b t) (m_md t) none)) (va_up (m_at t) (m_md t) (m_n t))) (k_KN (m_md t) (fun _ => true) (m_c t) (m_k t) 10)) (va_up (m_sz t) (m_md t) (k_cb (fun _ => true) 10))) (va_up (m_th t) (m_md t) true)) (m_md t + 1)) (fun u U => k_H g ad u U.heap) (k_A g)) 0 0 (k_A g) := by
  refine k_met (cc := cX5_makes) (maxL := 4) (ret := (some .int)) (by decide) rfl (Nat.le_of_ble_eq_true rfl) (fun p e s m args below meth c Q ls hQ hx hb hr hml hts hown hlk hin hK hZ hN hW hS hl => ?_)
  have hown : s.vm.findClass RX5 = some m.cls := hown
  have hW : k_H g ad t s.heap := hW
  have hl : lv_has ls 4 [(0, .ref (ad 9 0)), (1, .int (-1))] := hl
  have hinX5 : ∀ w ∈ wsX50, w ∈ wsX5_makes := by decide +kernel
  refine lv_aload_n hx hb dX5_makes_0 rfl (lv_at hl 0 rfl) ?_
  refine k_get (own := RX5) (C := RX5) (T := TX5) (N := 21) hx hb hts hinX5 hown hK hW (kc_9 g ad t) rfl 4 (by decide) (hts (.fieldLink RX5 16 "DrillVaultModel" "days" "[I") (by decide +kernel)) rfl (v := .ref (ad 12 0)) rfl dX5_makes_1 ?_
  refine lv_aload_n hx hb dX5_makes_4 rfl (lv_at hl 0 rfl) ?_
  refine k_get (own := RX5) (C := RX5) (T := TX5) (N := 21) hx hb hts hinX5 hown hK hW (kc_9 g ad t) rfl 12 (by decide) (hts (.fieldLink RX5 66 "DrillVaultModel" "made" "I") (by decide +kernel)) rfl (v := .int (nI (m_md t))) rfl dX5_makes_5 ?_
  refine lv_aload_n hx hb dX5_makes_8 rfl (lv_at hl 0 rfl) ?_
  refine k_get (own := RX5) (C := RX5) (T := TX5) (N := 21) hx hb hts hinX5 hown hK hW (kc_9 g ad t) rfl 3 (by decide) (hts (.fieldLink RX5 84 "DrillVaultModel" "day" "I") (by decide +kernel)) rfl (v := .int (nI (m_d t))) rfl dX5_makes_9 ?_
  refine k_iast hx hb hK hW hS (kc_12 g ad t) (m_md t) rfl (by omega) (by decide) dX5_makes_12 (fun H locs hW hS => ?_)
  have hW : k_H g ad (set_m_on t (va_up (m_on t) (m_md t) (m_d t))) H := kt_m_on (t := t) (m_md t) (m_d t) rfl hW
  refine lv_aload_n hx hb dX5_makes_13 rfl (lv_at hl 0 rfl) ?_
  refine k_get (own := RX5) (C := RX5) (T := TX5) (N := 21) hx hb hts hinX5 hown hK hW (kc_9 g ad (set_m_on t (va_up (m_on t) (m_md t) (m_d t)))) rfl 5 (by decide) (hts (.fieldLink RX5 19 "DrillVaultModel" "bases" "[I") (by decide +kernel)) rfl (v := .ref (ad 13 0)) rfl dX5_makes_14 ?_
  refine lv_aload_n hx hb dX5_makes_17 rfl (lv_at hl 0 rfl) ?_
  refine k_get (own := RX5) (C := RX5) (T := TX5) (N := 21) hx hb hts hinX5 hown hK hW (kc_9 g ad (set_m_on t (va_up (m_on t) (m_md t) (m_d t)))) rfl 12 (by decide) (hts (.fieldLink RX5 66 "DrillVaultModel" "made" "I") (by decide +kernel)) rfl (v := .int (nI (m_md t))) rfl dX5_makes_18 ?_
  refine lv_iload_n hx hb dX5_makes_21 rfl (lv_at hl 1 rfl) ?_
  refine k_iast hx hb hK hW hS (kc_13 g ad (set_m_on t (va_up (m_on t) (m_md t) (m_d t)))) (m_md t) rfl (by omega) (by decide) dX5_makes_22 (fun H locs hW hS => ?_)
  have hW : k_H g ad (set_m_b (set_m_on t (va_up (m_on t) (m_md t) (m_d t))) (va_up (m_b t) (m_md t) none)) H := kt_m_b (t := set_m_on t (va_up (m_on t) (m_md t) (m_d t))) (m_md t) none rfl hW
  refine lv_aload_n hx hb dX5_makes_23 rfl (lv_at hl 0 rfl) ?_
  refine k_get (own := RX5) (C := RX5) (T := TX5) (N := 21) hx hb hts hinX5 hown hK hW (kc_9 g ad (set_m_b (set_m_on t (va_up (m_on t) (m_md t) (m_d t))) (va_up (m_b t) (m_md t) none))) rfl 7 (by decide) (hts (.fieldLink RX5 25 "DrillVaultModel" "madeAt" "[I") (by decide +kernel)) rfl (v := .ref (ad 15 0)) rfl dX5_makes_24 ?_
  refine lv_aload_n hx hb dX5_makes_27 rfl (lv_at hl 0 rfl) ?_
  refine k_get (own := RX5) (C := RX5) (T := TX5) (N := 21) hx hb hts hinX5 hown hK hW (kc_9 g ad (set_m_b (set_m_on t (va_up (m_on t) (m_md t) (m_d t))) (va_up (m_b t) (m_md t) none))) rfl 12 (by decide) (hts (.fieldLink RX5 66 "DrillVaultModel" "made" "I") (by decide +kernel)) rfl (v := .int (nI (m_md t))) rfl dX5_makes_28 ?_
  refine lv_aload_n hx hb dX5_makes_31 rfl (lv_at hl 0 rfl) ?_
  refine k_get (own := RX5) (C := RX5) (T := TX5) (N := 21) hx hb hts hinX5 hown hK hW (kc_9 g ad (set_m_b (set_m_on t (va_up (m_on t) (m_md t) (m_d t))) (va_up (m_b t) (m_md t) none))) rfl 2 (by decide) (hts (.fieldLink RX5 77 "DrillVaultModel" "changes" "I") (by decide +kernel)) rfl (v := .int (nI (m_n t))) rfl dX5_makes_32 ?_
  refine k_iast hx hb hK hW hS (kc_15 g ad (set_m_b (set_m_on t (va_up (m_on t) (m_md t) (m_d t))) (va_up (m_b t) (m_md t) none))) (m_md t) rfl (by omega) (by decide) dX5_makes_35 (fun H locs hW hS => ?_)
  have hW : k_H g ad (set_m_at (set_m_b (set_m_on t (va_up (m_on t) (m_md t) (m_d t))) (va_up (m_b t) (m_md t) none)) (va_up (m_at t) (m_md t) (m_n t))) H := kt_m_at (t := set_m_b (set_m_on t (va_up (m_on t) (m_md t) (m_d t))) (va_up (m_b t) (m_md t) none)) (m_md t) (m_n t) rfl hW
  refine lv_iconst (v := nI 0) hx hb dX5_makes_36 (by decide) ?_
  refine lv_istore_n (lv' := [(2, .int (nI 0)), (0, .ref (ad 9 0)), (1, .int (-1))]) hx hb dX5_makes_37 rfl hl (by decide) rfl (fun ls hl => ?_)
  have hloop_38 : ∀ (n : Nat) (i : Nat) (K1 : Nat → Int32) (S1 : Nat → Nat), (10 < i + n) → (i ≤ 10) → (K1 = k_KN (m_md t) (fun _ => true) (m_c t) (m_k t) i) → (S1 = va_up (m_sz t) (m_md t) (k_cb (fun _ => true) i)) → ∀ (H : Heap) (locs : List Loc), k_H g ad (set_m_sz (set_m_k (set_m_at (set_m_b (set_m_on t (va_up (m_on t) (m_md t) (m_d t))) (va_up (m_b t) (m_md t) none)) (va_up (m_at t) (m_md t) (m_n t))) K1) S1) H → va_S (k_A g) s.heap H locs → ∀ (ls : Array Slot), lv_has ls 4 [(0, .ref (ad 9 0)), (1, .int (-1)), (2, .int (nI i))] → W p l e rm_X5_makes s m args below meth c H locs 0 0 Q (F0 m 38 ls []) := by
    intro n
    induction n with
    | zero =>
      intro i K1 S1 hfu hi hKe hSe
      exact absurd hfu (by omega)
    | succ n ih =>
      intro i K1 S1 hfu hi hKe hSe H locs hW hS ls hl
      refine lv_iload_n hx hb dX5_makes_38 rfl (lv_at hl 2 rfl) ?_
      refine lv_bipush (v := nI 10) hx hb dX5_makes_39 (by decide) ?_
      refine k_icmp_ge (tgt := 125) hx hb (a := i) (b := 10) (by omega) (by decide) dX5_makes_41 (by decide) (fun h_41 => ?_) (fun h_41 => ?_)
      · have hi9 : i = 10 := by omega
        have hW : k_H g ad (set_m_sz (set_m_k (set_m_at (set_m_b (set_m_on t (va_up (m_on t) (m_md t) (m_d t))) (va_up (m_b t) (m_md t) none)) (va_up (m_at t) (m_md t) (m_n t))) (k_KN (m_md t) (fun _ => true) (m_c t) (m_k t) 10)) (va_up (m_sz t) (m_md t) (k_cb (fun _ => true) 10))) H := by rw [← hi9, ← hKe, ← hSe]; exact hW
        refine lv_aload_n hx hb dX5_makes_125 rfl (lv_at hl 0 rfl) ?_
        refine k_get (own := RX5) (C := RX5) (T := TX5) (N := 21) hx hb hts hinX5 hown hK hW (kc_9 g ad (set_m_sz (set_m_k (set_m_at (set_m_b (set_m_on t (va_up (m_on t) (m_md t) (m_d t))) (va_up (m_b t) (m_md t) none)) (va_up (m_at t) (m_md t) (m_n t))) (k_KN (m_md t) (fun _ => true) (m_c t) (m_k t) 10)) (va_up (m_sz t) (m_md t) (k_cb (fun _ => true) 10)))) rfl 9 (by decide) (hts (.fieldLink RX5 31 "DrillVaultModel" "there" "[Z") (by decide +kernel)) rfl (v := .ref (ad 17 0)) rfl dX5_makes_126 ?_
        refine lv_aload_n hx hb dX5_makes_129 rfl (lv_at hl 0 rfl) ?_
        refine k_get (own := RX5) (C := RX5) (T := TX5) (N := 21) hx hb hts hinX5 hown hK hW (kc_9 g ad (set_m_sz (set_m_k (set_m_at (set_m_b (set_m_on t (va_up (m_on t) (m_md t) (m_d t))) (va_up (m_b t) (m_md t) none)) (va_up (m_at t) (m_md t) (m_n t))) (k_KN (m_md t) (fun _ => true) (m_c t) (m_k t) 10)) (va_up (m_sz t) (m_md t) (k_cb (fun _ => true) 10)))) rfl 12 (by decide) (hts (.fieldLink RX5 66 "DrillVaultModel" "made" "I") (by decide +kernel)) rfl (v := .int (nI (m_md t))) rfl dX5_makes_130 ?_
        refine lv_iconst (v := nI 1) hx hb dX5_makes_133 (by decide) ?_
        refine k_zast hx hb hK hW hS (kc_17 g ad (set_m_sz (set_m_k (set_m_at (set_m_b (set_m_on t (va_up (m_on t) (m_md t) (m_d t))) (va_up (m_b t) (m_md t) none)) (va_up (m_at t) (m_md t) (m_n t))) (k_KN (m_md t) (fun _ => true) (m_c t) (m_k t) 10)) (va_up (m_sz t) (m_md t) (k_cb (fun _ => true) 10)))) rfl (m_md t) rfl (by omega) (by decide) dX5_makes_134 (fun H locs hW hS => ?_)
        have hW : k_H g ad (set_m_th (set_m_sz (set_m_k (set_m_at (set_m_b (set_m_on t (va_up (m_on t) (m_md t) (m_d t))) (va_up (m_b t) (m_md t) none)) (va_up (m_at t) (m_md t) (m_n t))) (k_KN (m_md t) (fun _ => true) (m_c t) (m_k t) 10)) (va_up (m_sz t) (m_md t) (k_cb (fun _ => true) 10))) (va_up (m_th t) (m_md t) true)) H := kt_m_th (t := set_m_sz (set_m_k (set_m_at (set_m_b (set_m_on t (va_up (m_on t) (m_md t) (m_d t))) (va_up (m_b t) (m_md t) none)) (va_up (m_at t) (m_md t) (m_n t))) (k_KN (m_md t) (fun _ => true) (m_c t) (m_k t) 10)) (va_up (m_sz t) (m_md t) (k_cb (fun _ => true) 10))) (m_md t) true rfl hW
        refine lv_aload_n hx hb dX5_makes_135 rfl (lv_at hl 0 rfl) ?_
        refine lv_dup hx hb dX5_makes_136 rfl ?_
        refine k_get (own := RX5) (C := RX5) (T := TX5) (N := 21) hx hb hts hinX5 hown hK hW (kc_9 g ad (set_m_th (set_m_sz (set_m_k (set_m_at (set_m_b (set_m_on t (va_up (m_on t) (m_md t) (m_d t))) (va_up (m_b t) (m_md t) none)) (va_up (m_at t) (m_md t) (m_n t))) (k_KN (m_md t) (fun _ => true) (m_c t) (m_k t) 10)) (va_up (m_sz t) (m_md t) (k_cb (fun _ => true) 10))) (va_up (m_th t) (m_md t) true))) rfl 12 (by decide) (hts (.fieldLink RX5 66 "DrillVaultModel" "made" "I") (by decide +kernel)) rfl (v := .int (nI (m_md t))) rfl dX5_makes_137 ?_
        refine lv_iconst (v := nI 1) hx hb dX5_makes_140 (by decide) ?_
        refine k_iadd hx hb dX5_makes_141 ?_
        refine k_put (own := RX5) (C := RX5) (T := TX5) (N := 21) hx hb hts hinX5 tyX5 tyX5_ok nmX5 hown hK hW hS (kc_9 g ad (set_m_th (set_m_sz (set_m_k (set_m_at (set_m_b (set_m_on t (va_up (m_on t) (m_md t) (m_d t))) (va_up (m_b t) (m_md t) none)) (va_up (m_at t) (m_md t) (m_n t))) (k_KN (m_md t) (fun _ => true) (m_c t) (m_k t) 10)) (va_up (m_sz t) (m_md t) (k_cb (fun _ => true) 10))) (va_up (m_th t) (m_md t) true))) rfl 12 (by decide) (hts (.fieldLink RX5 66 "DrillVaultModel" "made" "I") (by decide +kernel)) rfl rfl (ty := tyX5 12) (v := .int (nI ((m_md t) + 1))) (tyX5_ok 12 (by decide)) rfl rfl (Nat.le_of_ble_eq_true rfl) dX5_makes_142 (fun H locs hW hS => ?_)
        have hW : k_H g ad (set_m_md (set_m_th (set_m_sz (set_m_k (set_m_at (set_m_b (set_m_on t (va_up (m_on t) (m_md t) (m_d t))) (va_up (m_b t) (m_md t) none)) (va_up (m_at t) (m_md t) (m_n t))) (k_KN (m_md t) (fun _ => true) (m_c t) (m_k t) 10)) (va_up (m_sz t) (m_md t) (k_cb (fun _ => true) 10))) (va_up (m_th t) (m_md t) true)) ((m_md t) + 1)) H := kt_m_md (t := set_m_th (set_m_sz (set_m_k (set_m_at (set_m_b (set_m_on t (va_up (m_on t) (m_md t) (m_d t))) (va_up (m_b t) (m_md t) none)) (va_up (m_at t) (m_md t) (m_n t))) (k_KN (m_md t) (fun _ => true) (m_c t) (m_k t) 10)) (va_up (m_sz t) (m_md t) (k_cb (fun _ => true) 10))) (va_up (m_th t) (m_md t) true)) ((m_md t) + 1) rfl hW
        refine lv_aload_n hx hb dX5_makes_145 rfl (lv_at hl 0 rfl) ?_
        refine k_get (own := RX5) (C := RX5) (T := TX5) (N := 21) hx hb hts hinX5 hown hK hW (kc_9 g ad (set_m_md (set_m_th (set_m_sz (set_m_k (set_m_at (set_m_b (set_m_on t (va_up (m_on t) (m_md t) (m_d t))) (va_up (m_b t) (m_md t) none)) (va_up (m_at t) (m_md t) (m_n t))) (k_KN (m_md t) (fun _ => true) (m_c t) (m_k t) 10)) (va_up (m_sz t) (m_md t) (k_cb (fun _ => true) 10))) (va_up (m_th t) (m_md t) true)) ((m_md t) + 1))) rfl 12 (by decide) (hts (.fieldLink RX5 66 "DrillVaultModel" "made" "I") (by decide +kernel)) rfl (v := .int (nI ((m_md t) + 1))) rfl dX5_makes_146 ?_
        refine lv_iconst (v := nI 1) hx hb dX5_makes_149 (by decide) ?_
        refine k_isub hx hb (by omega) dX5_makes_150 ?_
        exact k_ri hQ hx hb hr hlk hS hW ⟨rfl, rfl⟩ (Nat.le_of_ble_eq_true rfl) (Nat.le_of_ble_eq_true rfl) dX5_makes_151
      · refine lv_iload_n hx hb dX5_makes_44 rfl (lv_at hl 1 rfl) ?_
        refine lv_iconst (v := (-1)) hx hb dX5_makes_45 (by decide) ?_
        refine lv_icmp_eq (tgt := 64) hx hb dX5_makes_46 (by decide) (fun h_46 => ?_) (fun h_46 => absurd rfl h_46)
        refine lv_iconst (v := nI 1) hx hb dX5_makes_64 (by decide) ?_
        refine lv_goto (tgt := 69) hx hb dX5_makes_65 (by decide) ?_
        refine lv_istore_n (lv' := [(3, .int (nI 1)), (0, .ref (ad 9 0)), (1, .int (-1)), (2, .int (nI i))]) hx hb dX5_makes_69 rfl hl (by decide) rfl (fun ls hl => ?_)
        refine lv_aload_n hx hb dX5_makes_70 rfl (lv_at hl 1 rfl) ?_
        refine k_get (own := RX5) (C := RX5) (T := TX5) (N := 21) hx hb hts hinX5 hown hK hW (kc_9 g ad (set_m_sz (set_m_k (set_m_at (set_m_b (set_m_on t (va_up (m_on t) (m_md t) (m_d t))) (va_up (m_b t) (m_md t) none)) (va_up (m_at t) (m_md t) (m_n t))) K1) S1)) rfl 8 (by decide) (hts (.fieldLink RX5 28 "DrillVaultModel" "kept" "[I") (by decide +kernel)) rfl (v := .ref (ad 16 0)) rfl dX5_makes_71 ?_
        refine lv_bipush (v := nI 10) hx hb dX5_makes_74 (by decide) ?_
        refine lv_aload_n hx hb dX5_makes_76 rfl (lv_at hl 1 rfl) ?_
        refine k_get (own := RX5) (C := RX5) (T := TX5) (N := 21) hx hb hts hinX5 hown hK hW (kc_9 g ad (set_m_sz (set_m_k (set_m_at (set_m_b (set_m_on t (va_up (m_on t) (m_md t) (m_d t))) (va_up (m_b t) (m_md t) none)) (va_up (m_at t) (m_md t) (m_n t))) K1) S1)) rfl 12 (by decide) (hts (.fieldLink RX5 66 "DrillVaultModel" "made" "I") (by decide +kernel)) rfl (v := .int (nI (m_md t))) rfl dX5_makes_77 ?_
        refine k_imul hx hb dX5_makes_80 ?_
        refine lv_iload_n hx hb dX5_makes_81 rfl (lv_at hl 3 rfl) ?_
        refine k_iadd hx hb dX5_makes_82 ?_
        refine lv_iload_n hx hb dX5_makes_83 rfl (lv_at hl 0 rfl) ?_
        refine lv_if_eq (tgt := 96) hx hb dX5_makes_84 (by decide) (fun h_84 => absurd h_84 (by decide)) (fun h_84 => ?_)
        refine lv_aload_n hx hb dX5_makes_87 rfl (lv_at hl 1 rfl) ?_
        refine k_get (own := RX5) (C := RX5) (T := TX5) (N := 21) hx hb hts hinX5 hown hK hW (kc_9 g ad (set_m_sz (set_m_k (set_m_at (set_m_b (set_m_on t (va_up (m_on t) (m_md t) (m_d t))) (va_up (m_b t) (m_md t) none)) (va_up (m_at t) (m_md t) (m_n t))) K1) S1)) rfl 0 (by decide) (hts (.fieldLink RX5 7 "DrillVaultModel" "contents" "[I") (by decide +kernel)) rfl (v := .ref (ad 10 0)) rfl dX5_makes_88 ?_
        refine lv_iload_n hx hb dX5_makes_91 rfl (lv_at hl 3 rfl) ?_
        refine k_iald hx hb hK hW (kc_10 g ad (set_m_sz (set_m_k (set_m_at (set_m_b (set_m_on t (va_up (m_on t) (m_md t) (m_d t))) (va_up (m_b t) (m_md t) none)) (va_up (m_at t) (m_md t) (m_n t))) K1) S1)) i rfl (by omega) (by decide) dX5_makes_92 ?_
        refine k_tov (y := .int (m_c t i)) rfl ?_
        refine lv_goto (tgt := 97) hx hb dX5_makes_93 (by decide) ?_
        refine k_iast hx hb hK hW hS (kc_16 g ad (set_m_sz (set_m_k (set_m_at (set_m_b (set_m_on t (va_up (m_on t) (m_md t) (m_d t))) (va_up (m_b t) (m_md t) none)) (va_up (m_at t) (m_md t) (m_n t))) K1) S1)) ((10 * (m_md t)) + i) rfl (by omega) (by decide) dX5_makes_97 (fun H locs hW hS => ?_)
        have hW : k_H g ad (set_m_k (set_m_sz (set_m_at (set_m_b (set_m_on t (va_up (m_on t) (m_md t) (m_d t))) (va_up (m_b t) (m_md t) none)) (va_up (m_at t) (m_md t) (m_n t))) S1) (va_up K1 ((10 * (m_md t)) + i) (m_c t i))) H := kt_m_k (t := set_m_sz (set_m_k (set_m_at (set_m_b (set_m_on t (va_up (m_on t) (m_md t) (m_d t))) (va_up (m_b t) (m_md t) none)) (va_up (m_at t) (m_md t) (m_n t))) K1) S1) ((10 * (m_md t)) + i) (m_c t i) rfl hW
        refine lv_aload_n hx hb dX5_makes_98 rfl (lv_at hl 1 rfl) ?_
        refine k_get (own := RX5) (C := RX5) (T := TX5) (N := 21) hx hb hts hinX5 hown hK hW (kc_9 g ad (set_m_k (set_m_sz (set_m_at (set_m_b (set_m_on t (va_up (m_on t) (m_md t) (m_d t))) (va_up (m_b t) (m_md t) none)) (va_up (m_at t) (m_md t) (m_n t))) S1) (va_up K1 ((10 * (m_md t)) + i) (m_c t i)))) rfl 6 (by decide) (hts (.fieldLink RX5 22 "DrillVaultModel" "sizes" "[I") (by decide +kernel)) rfl (v := .ref (ad 14 0)) rfl dX5_makes_99 ?_
        refine lv_aload_n hx hb dX5_makes_102 rfl (lv_at hl 1 rfl) ?_
        refine k_get (own := RX5) (C := RX5) (T := TX5) (N := 21) hx hb hts hinX5 hown hK hW (kc_9 g ad (set_m_k (set_m_sz (set_m_at (set_m_b (set_m_on t (va_up (m_on t) (m_md t) (m_d t))) (va_up (m_b t) (m_md t) none)) (va_up (m_at t) (m_md t) (m_n t))) S1) (va_up K1 ((10 * (m_md t)) + i) (m_c t i)))) rfl 12 (by decide) (hts (.fieldLink RX5 66 "DrillVaultModel" "made" "I") (by decide +kernel)) rfl (v := .int (nI (m_md t))) rfl dX5_makes_103 ?_
        refine lv_dup2_11 hx hb dX5_makes_106 rfl rfl ?_
        refine k_iald hx hb hK hW (kc_14 g ad (set_m_k (set_m_sz (set_m_at (set_m_b (set_m_on t (va_up (m_on t) (m_md t) (m_d t))) (va_up (m_b t) (m_md t) none)) (va_up (m_at t) (m_md t) (m_n t))) S1) (va_up K1 ((10 * (m_md t)) + i) (m_c t i)))) (m_md t) rfl (by omega) (by decide) dX5_makes_107 ?_
        refine k_tov (y := .int (nI (S1 (m_md t)))) rfl ?_
        refine lv_iload_n hx hb dX5_makes_108 rfl (lv_at hl 0 rfl) ?_
        refine lv_if_eq (tgt := 116) hx hb dX5_makes_109 (by decide) (fun h_109 => absurd h_109 (by decide)) (fun h_109 => ?_)
        refine lv_iconst (v := nI 1) hx hb dX5_makes_112 (by decide) ?_
        refine lv_goto (tgt := 117) hx hb dX5_makes_113 (by decide) ?_
        refine k_iadd hx hb dX5_makes_117 ?_
        refine k_iast hx hb hK hW hS (kc_14 g ad (set_m_k (set_m_sz (set_m_at (set_m_b (set_m_on t (va_up (m_on t) (m_md t) (m_d t))) (va_up (m_b t) (m_md t) none)) (va_up (m_at t) (m_md t) (m_n t))) S1) (va_up K1 ((10 * (m_md t)) + i) (m_c t i)))) (m_md t) rfl (by omega) (by decide) dX5_makes_118 (fun H locs hW hS => ?_)
        have hW : k_H g ad (set_m_sz (set_m_k (set_m_at (set_m_b (set_m_on t (va_up (m_on t) (m_md t) (m_d t))) (va_up (m_b t) (m_md t) none)) (va_up (m_at t) (m_md t) (m_n t))) (va_up K1 ((10 * (m_md t)) + i) (m_c t i))) (va_up S1 (m_md t) ((S1 (m_md t)) + 1))) H := kt_m_sz (t := set_m_k (set_m_sz (set_m_at (set_m_b (set_m_on t (va_up (m_on t) (m_md t) (m_d t))) (va_up (m_b t) (m_md t) none)) (va_up (m_at t) (m_md t) (m_n t))) S1) (va_up K1 ((10 * (m_md t)) + i) (m_c t i))) (m_md t) ((S1 (m_md t)) + 1) rfl hW
        refine lv_iinc (v := nI (i + 1)) (lv' := [(2, .int (nI (i + 1))), (3, .int (nI 1)), (0, .ref (ad 9 0)), (1, .int (-1))]) hx hb dX5_makes_119 hl (k := 3) rfl (nI_add _ _) (by decide) rfl (fun ls hl => ?_)
        refine lv_goto (tgt := 38) hx hb dX5_makes_122 (by decide) ?_
        exact ih (i + 1) (va_up K1 ((10 * (m_md t)) + i) (m_c t i)) (va_up S1 (m_md t) ((S1 (m_md t)) + 1)) (by omega) (by omega) (by rw [hKe]; exact k_KN_s (by rw [if_pos rfl])) (k_sz_s hSe (k_cb_y rfl)) _ _ hW hS _ (lv_sub hl [2, 3, 0] rfl)
  exact hloop_38 11 0 (m_k t) (m_sz t) (by omega) (by omega) k_KN_0 (k_sz_0 hsz) _ _ hW hS _ (lv_sub hl [1, 2, 0] rfl)
set_option maxRecDepth 100000 in
set_option maxHeartbeats 4000000 in
theorem c_X5_makes_s (l : Launch) (hlt : l.stackTraces = false) (g : k_g) (ad : k_AD) (t : k_T) (b0 : Nat) (hm : m_md t < 60) (hsz : m_sz t (m_md t) = 0) (hn3 : m_n t ≤ 300) (hb0 : b0 < m_md t) (hch : ∀ i, i < 10 → m_ch t i ≤ 300) (hat : ∀ k, k < m_md t → m_at t k ≤ 300) : Met l yX5_makes wsX5_makes rm_X5_makes (va_Pc [.ref (ad 9 0), .int (nI b0)] (k_I g (k_ct g ad t) ad)) (va_Qi (fun r u => r = nI (m_md t) ∧ u = set_m_md (set_m_th (set_m_sz (set_m_k (set_m_at (set_m_b (set_m_on t (va_up (m_on t) (m_md t) (m_d t))) (va_up (m_b t) (m_md t) (some b0))) (va_up (m_at t) (m_md t) (m_n t))) (k_KN (m_md t) (fun f => decide ((m_at t) b0 < (m_ch t) f)) (m_c t) (m_k t) 10)) (va_up (m_sz t) (m_md t) (k_cb (fun f => decide ((m_at t) b0 < (m_ch t) f)) 10))) (va_up (m_th t) (m_md t) true)) (m_md t + 1)) (fun u U => k_H g ad u U.heap) (k_A g)) 0 0 (k_A g) := by
  refine k_met (cc := cX5_makes) (maxL := 4) (ret := (some .int)) (by decide) rfl (Nat.le_of_ble_eq_true rfl) (fun p e s m args below meth c Q ls hQ hx hb hr hml hts hown hlk hin hK hZ hN hW hS hl => ?_)
  have hown : s.vm.findClass RX5 = some m.cls := hown
  have hW : k_H g ad t s.heap := hW
  have hl : lv_has ls 4 [(0, .ref (ad 9 0)), (1, .int (nI b0))] := hl
  have hinX5 : ∀ w ∈ wsX50, w ∈ wsX5_makes := by decide +kernel
  refine lv_aload_n hx hb dX5_makes_0 rfl (lv_at hl 0 rfl) ?_
  refine k_get (own := RX5) (C := RX5) (T := TX5) (N := 21) hx hb hts hinX5 hown hK hW (kc_9 g ad t) rfl 4 (by decide) (hts (.fieldLink RX5 16 "DrillVaultModel" "days" "[I") (by decide +kernel)) rfl (v := .ref (ad 12 0)) rfl dX5_makes_1 ?_
  refine lv_aload_n hx hb dX5_makes_4 rfl (lv_at hl 0 rfl) ?_
  refine k_get (own := RX5) (C := RX5) (T := TX5) (N := 21) hx hb hts hinX5 hown hK hW (kc_9 g ad t) rfl 12 (by decide) (hts (.fieldLink RX5 66 "DrillVaultModel" "made" "I") (by decide +kernel)) rfl (v := .int (nI (m_md t))) rfl dX5_makes_5 ?_
  refine lv_aload_n hx hb dX5_makes_8 rfl (lv_at hl 0 rfl) ?_
  refine k_get (own := RX5) (C := RX5) (T := TX5) (N := 21) hx hb hts hinX5 hown hK hW (kc_9 g ad t) rfl 3 (by decide) (hts (.fieldLink RX5 84 "DrillVaultModel" "day" "I") (by decide +kernel)) rfl (v := .int (nI (m_d t))) rfl dX5_makes_9 ?_
  refine k_iast hx hb hK hW hS (kc_12 g ad t) (m_md t) rfl (by omega) (by decide) dX5_makes_12 (fun H locs hW hS => ?_)
  have hW : k_H g ad (set_m_on t (va_up (m_on t) (m_md t) (m_d t))) H := kt_m_on (t := t) (m_md t) (m_d t) rfl hW
  refine lv_aload_n hx hb dX5_makes_13 rfl (lv_at hl 0 rfl) ?_
  refine k_get (own := RX5) (C := RX5) (T := TX5) (N := 21) hx hb hts hinX5 hown hK hW (kc_9 g ad (set_m_on t (va_up (m_on t) (m_md t) (m_d t)))) rfl 5 (by decide) (hts (.fieldLink RX5 19 "DrillVaultModel" "bases" "[I") (by decide +kernel)) rfl (v := .ref (ad 13 0)) rfl dX5_makes_14 ?_
  refine lv_aload_n hx hb dX5_makes_17 rfl (lv_at hl 0 rfl) ?_
  refine k_get (own := RX5) (C := RX5) (T := TX5) (N := 21) hx hb hts hinX5 hown hK hW (kc_9 g ad (set_m_on t (va_up (m_on t) (m_md t) (m_d t)))) rfl 12 (by decide) (hts (.fieldLink RX5 66 "DrillVaultModel" "made" "I") (by decide +kernel)) rfl (v := .int (nI (m_md t))) rfl dX5_makes_18 ?_
  refine lv_iload_n hx hb dX5_makes_21 rfl (lv_at hl 1 rfl) ?_
  refine k_iast hx hb hK hW hS (kc_13 g ad (set_m_on t (va_up (m_on t) (m_md t) (m_d t)))) (m_md t) rfl (by omega) (by decide) dX5_makes_22 (fun H locs hW hS => ?_)
  have hW : k_H g ad (set_m_b (set_m_on t (va_up (m_on t) (m_md t) (m_d t))) (va_up (m_b t) (m_md t) (some b0))) H := kt_m_b (t := set_m_on t (va_up (m_on t) (m_md t) (m_d t))) (m_md t) (some b0) rfl hW
  refine lv_aload_n hx hb dX5_makes_23 rfl (lv_at hl 0 rfl) ?_
  refine k_get (own := RX5) (C := RX5) (T := TX5) (N := 21) hx hb hts hinX5 hown hK hW (kc_9 g ad (set_m_b (set_m_on t (va_up (m_on t) (m_md t) (m_d t))) (va_up (m_b t) (m_md t) (some b0)))) rfl 7 (by decide) (hts (.fieldLink RX5 25 "DrillVaultModel" "madeAt" "[I") (by decide +kernel)) rfl (v := .ref (ad 15 0)) rfl dX5_makes_24 ?_
  refine lv_aload_n hx hb dX5_makes_27 rfl (lv_at hl 0 rfl) ?_
  refine k_get (own := RX5) (C := RX5) (T := TX5) (N := 21) hx hb hts hinX5 hown hK hW (kc_9 g ad (set_m_b (set_m_on t (va_up (m_on t) (m_md t) (m_d t))) (va_up (m_b t) (m_md t) (some b0)))) rfl 12 (by decide) (hts (.fieldLink RX5 66 "DrillVaultModel" "made" "I") (by decide +kernel)) rfl (v := .int (nI (m_md t))) rfl dX5_makes_28 ?_
  refine lv_aload_n hx hb dX5_makes_31 rfl (lv_at hl 0 rfl) ?_
  refine k_get (own := RX5) (C := RX5) (T := TX5) (N := 21) hx hb hts hinX5 hown hK hW (kc_9 g ad (set_m_b (set_m_on t (va_up (m_on t) (m_md t) (m_d t))) (va_up (m_b t) (m_md t) (some b0)))) rfl 2 (by decide) (hts (.fieldLink RX5 77 "DrillVaultModel" "changes" "I") (by decide +kernel)) rfl (v := .int (nI (m_n t))) rfl dX5_makes_32 ?_
  refine k_iast hx hb hK hW hS (kc_15 g ad (set_m_b (set_m_on t (va_up (m_on t) (m_md t) (m_d t))) (va_up (m_b t) (m_md t) (some b0)))) (m_md t) rfl (by omega) (by decide) dX5_makes_35 (fun H locs hW hS => ?_)
  have hW : k_H g ad (set_m_at (set_m_b (set_m_on t (va_up (m_on t) (m_md t) (m_d t))) (va_up (m_b t) (m_md t) (some b0))) (va_up (m_at t) (m_md t) (m_n t))) H := kt_m_at (t := set_m_b (set_m_on t (va_up (m_on t) (m_md t) (m_d t))) (va_up (m_b t) (m_md t) (some b0))) (m_md t) (m_n t) rfl hW
  refine lv_iconst (v := nI 0) hx hb dX5_makes_36 (by decide) ?_
  refine lv_istore_n (lv' := [(2, .int (nI 0)), (0, .ref (ad 9 0)), (1, .int (nI b0))]) hx hb dX5_makes_37 rfl hl (by decide) rfl (fun ls hl => ?_)
  have hloop_38 : ∀ (n : Nat) (i : Nat) (K1 : Nat → Int32) (S1 : Nat → Nat), (10 < i + n) → (i ≤ 10) → (K1 = k_KN (m_md t) (fun f => decide ((m_at t) b0 < (m_ch t) f)) (m_c t) (m_k t) i) → (S1 = va_up (m_sz t) (m_md t) (k_cb (fun f => decide ((m_at t) b0 < (m_ch t) f)) i)) → ∀ (H : Heap) (locs : List Loc), k_H g ad (set_m_sz (set_m_k (set_m_at (set_m_b (set_m_on t (va_up (m_on t) (m_md t) (m_d t))) (va_up (m_b t) (m_md t) (some b0))) (va_up (m_at t) (m_md t) (m_n t))) K1) S1) H → va_S (k_A g) s.heap H locs → ∀ (ls : Array Slot), lv_has ls 4 [(0, .ref (ad 9 0)), (1, .int (nI b0)), (2, .int (nI i))] → W p l e rm_X5_makes s m args below meth c H locs 0 0 Q (F0 m 38 ls []) := by
    intro n
    induction n with
    | zero =>
      intro i K1 S1 hfu hi hKe hSe
      exact absurd hfu (by omega)
    | succ n ih =>
      intro i K1 S1 hfu hi hKe hSe H locs hW hS ls hl
      refine lv_iload_n hx hb dX5_makes_38 rfl (lv_at hl 2 rfl) ?_
      refine lv_bipush (v := nI 10) hx hb dX5_makes_39 (by decide) ?_
      refine k_icmp_ge (tgt := 125) hx hb (a := i) (b := 10) (by omega) (by decide) dX5_makes_41 (by decide) (fun h_41 => ?_) (fun h_41 => ?_)
      · have hi9 : i = 10 := by omega
        have hW : k_H g ad (set_m_sz (set_m_k (set_m_at (set_m_b (set_m_on t (va_up (m_on t) (m_md t) (m_d t))) (va_up (m_b t) (m_md t) (some b0))) (va_up (m_at t) (m_md t) (m_n t))) (k_KN (m_md t) (fun f => decide ((m_at t) b0 < (m_ch t) f)) (m_c t) (m_k t) 10)) (va_up (m_sz t) (m_md t) (k_cb (fun f => decide ((m_at t) b0 < (m_ch t) f)) 10))) H := by rw [← hi9, ← hKe, ← hSe]; exact hW
        refine lv_aload_n hx hb dX5_makes_125 rfl (lv_at hl 0 rfl) ?_
        refine k_get (own := RX5) (C := RX5) (T := TX5) (N := 21) hx hb hts hinX5 hown hK hW (kc_9 g ad (set_m_sz (set_m_k (set_m_at (set_m_b (set_m_on t (va_up (m_on t) (m_md t) (m_d t))) (va_up (m_b t) (m_md t) (some b0))) (va_up (m_at t) (m_md t) (m_n t))) (k_KN (m_md t) (fun f => decide ((m_at t) b0 < (m_ch t) f)) (m_c t) (m_k t) 10)) (va_up (m_sz t) (m_md t) (k_cb (fun f => decide ((m_at t) b0 < (m_ch t) f)) 10)))) rfl 9 (by decide) (hts (.fieldLink RX5 31 "DrillVaultModel" "there" "[Z") (by decide +kernel)) rfl (v := .ref (ad 17 0)) rfl dX5_makes_126 ?_
        refine lv_aload_n hx hb dX5_makes_129 rfl (lv_at hl 0 rfl) ?_
        refine k_get (own := RX5) (C := RX5) (T := TX5) (N := 21) hx hb hts hinX5 hown hK hW (kc_9 g ad (set_m_sz (set_m_k (set_m_at (set_m_b (set_m_on t (va_up (m_on t) (m_md t) (m_d t))) (va_up (m_b t) (m_md t) (some b0))) (va_up (m_at t) (m_md t) (m_n t))) (k_KN (m_md t) (fun f => decide ((m_at t) b0 < (m_ch t) f)) (m_c t) (m_k t) 10)) (va_up (m_sz t) (m_md t) (k_cb (fun f => decide ((m_at t) b0 < (m_ch t) f)) 10)))) rfl 12 (by decide) (hts (.fieldLink RX5 66 "DrillVaultModel" "made" "I") (by decide +kernel)) rfl (v := .int (nI (m_md t))) rfl dX5_makes_130 ?_
        refine lv_iconst (v := nI 1) hx hb dX5_makes_133 (by decide) ?_
        refine k_zast hx hb hK hW hS (kc_17 g ad (set_m_sz (set_m_k (set_m_at (set_m_b (set_m_on t (va_up (m_on t) (m_md t) (m_d t))) (va_up (m_b t) (m_md t) (some b0))) (va_up (m_at t) (m_md t) (m_n t))) (k_KN (m_md t) (fun f => decide ((m_at t) b0 < (m_ch t) f)) (m_c t) (m_k t) 10)) (va_up (m_sz t) (m_md t) (k_cb (fun f => decide ((m_at t) b0 < (m_ch t) f)) 10)))) rfl (m_md t) rfl (by omega) (by decide) dX5_makes_134 (fun H locs hW hS => ?_)
        have hW : k_H g ad (set_m_th (set_m_sz (set_m_k (set_m_at (set_m_b (set_m_on t (va_up (m_on t) (m_md t) (m_d t))) (va_up (m_b t) (m_md t) (some b0))) (va_up (m_at t) (m_md t) (m_n t))) (k_KN (m_md t) (fun f => decide ((m_at t) b0 < (m_ch t) f)) (m_c t) (m_k t) 10)) (va_up (m_sz t) (m_md t) (k_cb (fun f => decide ((m_at t) b0 < (m_ch t) f)) 10))) (va_up (m_th t) (m_md t) true)) H := kt_m_th (t := set_m_sz (set_m_k (set_m_at (set_m_b (set_m_on t (va_up (m_on t) (m_md t) (m_d t))) (va_up (m_b t) (m_md t) (some b0))) (va_up (m_at t) (m_md t) (m_n t))) (k_KN (m_md t) (fun f => decide ((m_at t) b0 < (m_ch t) f)) (m_c t) (m_k t) 10)) (va_up (m_sz t) (m_md t) (k_cb (fun f => decide ((m_at t) b0 < (m_ch t) f)) 10))) (m_md t) true rfl hW
        refine lv_aload_n hx hb dX5_makes_135 rfl (lv_at hl 0 rfl) ?_
        refine lv_dup hx hb dX5_makes_136 rfl ?_
        refine k_get (own := RX5) (C := RX5) (T := TX5) (N := 21) hx hb hts hinX5 hown hK hW (kc_9 g ad (set_m_th (set_m_sz (set_m_k (set_m_at (set_m_b (set_m_on t (va_up (m_on t) (m_md t) (m_d t))) (va_up (m_b t) (m_md t) (some b0))) (va_up (m_at t) (m_md t) (m_n t))) (k_KN (m_md t) (fun f => decide ((m_at t) b0 < (m_ch t) f)) (m_c t) (m_k t) 10)) (va_up (m_sz t) (m_md t) (k_cb (fun f => decide ((m_at t) b0 < (m_ch t) f)) 10))) (va_up (m_th t) (m_md t) true))) rfl 12 (by decide) (hts (.fieldLink RX5 66 "DrillVaultModel" "made" "I") (by decide +kernel)) rfl (v := .int (nI (m_md t))) rfl dX5_makes_137 ?_
        refine lv_iconst (v := nI 1) hx hb dX5_makes_140 (by decide) ?_
        refine k_iadd hx hb dX5_makes_141 ?_
        refine k_put (own := RX5) (C := RX5) (T := TX5) (N := 21) hx hb hts hinX5 tyX5 tyX5_ok nmX5 hown hK hW hS (kc_9 g ad (set_m_th (set_m_sz (set_m_k (set_m_at (set_m_b (set_m_on t (va_up (m_on t) (m_md t) (m_d t))) (va_up (m_b t) (m_md t) (some b0))) (va_up (m_at t) (m_md t) (m_n t))) (k_KN (m_md t) (fun f => decide ((m_at t) b0 < (m_ch t) f)) (m_c t) (m_k t) 10)) (va_up (m_sz t) (m_md t) (k_cb (fun f => decide ((m_at t) b0 < (m_ch t) f)) 10))) (va_up (m_th t) (m_md t) true))) rfl 12 (by decide) (hts (.fieldLink RX5 66 "DrillVaultModel" "made" "I") (by decide +kernel)) rfl rfl (ty := tyX5 12) (v := .int (nI ((m_md t) + 1))) (tyX5_ok 12 (by decide)) rfl rfl (Nat.le_of_ble_eq_true rfl) dX5_makes_142 (fun H locs hW hS => ?_)
        have hW : k_H g ad (set_m_md (set_m_th (set_m_sz (set_m_k (set_m_at (set_m_b (set_m_on t (va_up (m_on t) (m_md t) (m_d t))) (va_up (m_b t) (m_md t) (some b0))) (va_up (m_at t) (m_md t) (m_n t))) (k_KN (m_md t) (fun f => decide ((m_at t) b0 < (m_ch t) f)) (m_c t) (m_k t) 10)) (va_up (m_sz t) (m_md t) (k_cb (fun f => decide ((m_at t) b0 < (m_ch t) f)) 10))) (va_up (m_th t) (m_md t) true)) ((m_md t) + 1)) H := kt_m_md (t := set_m_th (set_m_sz (set_m_k (set_m_at (set_m_b (set_m_on t (va_up (m_on t) (m_md t) (m_d t))) (va_up (m_b t) (m_md t) (some b0))) (va_up (m_at t) (m_md t) (m_n t))) (k_KN (m_md t) (fun f => decide ((m_at t) b0 < (m_ch t) f)) (m_c t) (m_k t) 10)) (va_up (m_sz t) (m_md t) (k_cb (fun f => decide ((m_at t) b0 < (m_ch t) f)) 10))) (va_up (m_th t) (m_md t) true)) ((m_md t) + 1) rfl hW
        refine lv_aload_n hx hb dX5_makes_145 rfl (lv_at hl 0 rfl) ?_
        refine k_get (own := RX5) (C := RX5) (T := TX5) (N := 21) hx hb hts hinX5 hown hK hW (kc_9 g ad (set_m_md (set_m_th (set_m_sz (set_m_k (set_m_at (set_m_b (set_m_on t (va_up (m_on t) (m_md t) (m_d t))) (va_up (m_b t) (m_md t) (some b0))) (va_up (m_at t) (m_md t) (m_n t))) (k_KN (m_md t) (fun f => decide ((m_at t) b0 < (m_ch t) f)) (m_c t) (m_k t) 10)) (va_up (m_sz t) (m_md t) (k_cb (fun f => decide ((m_at t) b0 < (m_ch t) f)) 10))) (va_up (m_th t) (m_md t) true)) ((m_md t) + 1))) rfl 12 (by decide) (hts (.fieldLink RX5 66 "DrillVaultModel" "made" "I") (by decide +kernel)) rfl (v := .int (nI ((m_md t) + 1))) rfl dX5_makes_146 ?_
        refine lv_iconst (v := nI 1) hx hb dX5_makes_149 (by decide) ?_
        refine k_isub hx hb (by omega) dX5_makes_150 ?_
        exact k_ri hQ hx hb hr hlk hS hW ⟨rfl, rfl⟩ (Nat.le_of_ble_eq_true rfl) (Nat.le_of_ble_eq_true rfl) dX5_makes_151
      · refine lv_iload_n hx hb dX5_makes_44 rfl (lv_at hl 1 rfl) ?_
        refine lv_iconst (v := (-1)) hx hb dX5_makes_45 (by decide) ?_
        refine lv_icmp_eq (tgt := 64) hx hb dX5_makes_46 (by decide) (fun h_46 => absurd h_46 (k_nm1 (by omega))) (fun h_46 => ?_)
        refine lv_aload_n hx hb dX5_makes_49 rfl (lv_at hl 0 rfl) ?_
        refine k_get (own := RX5) (C := RX5) (T := TX5) (N := 21) hx hb hts hinX5 hown hK hW (kc_9 g ad (set_m_sz (set_m_k (set_m_at (set_m_b (set_m_on t (va_up (m_on t) (m_md t) (m_d t))) (va_up (m_b t) (m_md t) (some b0))) (va_up (m_at t) (m_md t) (m_n t))) K1) S1)) rfl 1 (by decide) (hts (.fieldLink RX5 13 "DrillVaultModel" "changed" "[I") (by decide +kernel)) rfl (v := .ref (ad 11 0)) rfl dX5_makes_50 ?_
        refine lv_iload_n hx hb dX5_makes_53 rfl (lv_at hl 2 rfl) ?_
        refine k_iald hx hb hK hW (kc_11 g ad (set_m_sz (set_m_k (set_m_at (set_m_b (set_m_on t (va_up (m_on t) (m_md t) (m_d t))) (va_up (m_b t) (m_md t) (some b0))) (va_up (m_at t) (m_md t) (m_n t))) K1) S1)) i rfl (by omega) (by decide) dX5_makes_54 ?_
        refine k_tov (y := .int (nI (m_ch t i))) rfl ?_
        refine lv_aload_n hx hb dX5_makes_55 rfl (lv_at hl 0 rfl) ?_
        refine k_get (own := RX5) (C := RX5) (T := TX5) (N := 21) hx hb hts hinX5 hown hK hW (kc_9 g ad (set_m_sz (set_m_k (set_m_at (set_m_b (set_m_on t (va_up (m_on t) (m_md t) (m_d t))) (va_up (m_b t) (m_md t) (some b0))) (va_up (m_at t) (m_md t) (m_n t))) K1) S1)) rfl 7 (by decide) (hts (.fieldLink RX5 25 "DrillVaultModel" "madeAt" "[I") (by decide +kernel)) rfl (v := .ref (ad 15 0)) rfl dX5_makes_56 ?_
        refine lv_iload_n hx hb dX5_makes_59 rfl (lv_at hl 1 rfl) ?_
        refine k_iald hx hb hK hW (kc_15 g ad (set_m_sz (set_m_k (set_m_at (set_m_b (set_m_on t (va_up (m_on t) (m_md t) (m_d t))) (va_up (m_b t) (m_md t) (some b0))) (va_up (m_at t) (m_md t) (m_n t))) K1) S1)) b0 rfl (by omega) (by decide) dX5_makes_60 ?_
        refine k_tov (y := .int (nI ((va_up (m_at t) (m_md t) (m_n t)) b0))) rfl ?_
        refine k_icmp_le (tgt := 68) hx hb (a := m_ch t i) (b := (va_up (m_at t) (m_md t) (m_n t)) b0) (by have := hch i (by omega); omega) (by rw [va_up_ne _ _ (Nat.ne_of_lt hb0)]; have := hat b0 hb0; omega) dX5_makes_61 (by decide) (fun h_61 => ?_) (fun h_61 => ?_)
        · refine lv_iconst (v := nI 0) hx hb dX5_makes_68 (by decide) ?_
          refine lv_istore_n (lv' := [(3, .int (nI 0)), (0, .ref (ad 9 0)), (1, .int (nI b0)), (2, .int (nI i))]) hx hb dX5_makes_69 rfl hl (by decide) rfl (fun ls hl => ?_)
          refine lv_aload_n hx hb dX5_makes_70 rfl (lv_at hl 1 rfl) ?_
          refine k_get (own := RX5) (C := RX5) (T := TX5) (N := 21) hx hb hts hinX5 hown hK hW (kc_9 g ad (set_m_sz (set_m_k (set_m_at (set_m_b (set_m_on t (va_up (m_on t) (m_md t) (m_d t))) (va_up (m_b t) (m_md t) (some b0))) (va_up (m_at t) (m_md t) (m_n t))) K1) S1)) rfl 8 (by decide) (hts (.fieldLink RX5 28 "DrillVaultModel" "kept" "[I") (by decide +kernel)) rfl (v := .ref (ad 16 0)) rfl dX5_makes_71 ?_
          refine lv_bipush (v := nI 10) hx hb dX5_makes_74 (by decide) ?_
          refine lv_aload_n hx hb dX5_makes_76 rfl (lv_at hl 1 rfl) ?_
          refine k_get (own := RX5) (C := RX5) (T := TX5) (N := 21) hx hb hts hinX5 hown hK hW (kc_9 g ad (set_m_sz (set_m_k (set_m_at (set_m_b (set_m_on t (va_up (m_on t) (m_md t) (m_d t))) (va_up (m_b t) (m_md t) (some b0))) (va_up (m_at t) (m_md t) (m_n t))) K1) S1)) rfl 12 (by decide) (hts (.fieldLink RX5 66 "DrillVaultModel" "made" "I") (by decide +kernel)) rfl (v := .int (nI (m_md t))) rfl dX5_makes_77 ?_
          refine k_imul hx hb dX5_makes_80 ?_
          refine lv_iload_n hx hb dX5_makes_81 rfl (lv_at hl 3 rfl) ?_
          refine k_iadd hx hb dX5_makes_82 ?_
          refine lv_iload_n hx hb dX5_makes_83 rfl (lv_at hl 0 rfl) ?_
          refine lv_if_eq (tgt := 96) hx hb dX5_makes_84 (by decide) (fun h_84 => ?_) (fun h_84 => absurd h_84 (by decide))
          refine lv_iconst (v := (-1)) hx hb dX5_makes_96 (by decide) ?_
          refine k_iast hx hb hK hW hS (kc_16 g ad (set_m_sz (set_m_k (set_m_at (set_m_b (set_m_on t (va_up (m_on t) (m_md t) (m_d t))) (va_up (m_b t) (m_md t) (some b0))) (va_up (m_at t) (m_md t) (m_n t))) K1) S1)) ((10 * (m_md t)) + i) rfl (by omega) (by decide) dX5_makes_97 (fun H locs hW hS => ?_)
          have hW : k_H g ad (set_m_k (set_m_sz (set_m_at (set_m_b (set_m_on t (va_up (m_on t) (m_md t) (m_d t))) (va_up (m_b t) (m_md t) (some b0))) (va_up (m_at t) (m_md t) (m_n t))) S1) (va_up K1 ((10 * (m_md t)) + i) (-1))) H := kt_m_k (t := set_m_sz (set_m_k (set_m_at (set_m_b (set_m_on t (va_up (m_on t) (m_md t) (m_d t))) (va_up (m_b t) (m_md t) (some b0))) (va_up (m_at t) (m_md t) (m_n t))) K1) S1) ((10 * (m_md t)) + i) (-1) rfl hW
          refine lv_aload_n hx hb dX5_makes_98 rfl (lv_at hl 1 rfl) ?_
          refine k_get (own := RX5) (C := RX5) (T := TX5) (N := 21) hx hb hts hinX5 hown hK hW (kc_9 g ad (set_m_k (set_m_sz (set_m_at (set_m_b (set_m_on t (va_up (m_on t) (m_md t) (m_d t))) (va_up (m_b t) (m_md t) (some b0))) (va_up (m_at t) (m_md t) (m_n t))) S1) (va_up K1 ((10 * (m_md t)) + i) (-1)))) rfl 6 (by decide) (hts (.fieldLink RX5 22 "DrillVaultModel" "sizes" "[I") (by decide +kernel)) rfl (v := .ref (ad 14 0)) rfl dX5_makes_99 ?_
          refine lv_aload_n hx hb dX5_makes_102 rfl (lv_at hl 1 rfl) ?_
          refine k_get (own := RX5) (C := RX5) (T := TX5) (N := 21) hx hb hts hinX5 hown hK hW (kc_9 g ad (set_m_k (set_m_sz (set_m_at (set_m_b (set_m_on t (va_up (m_on t) (m_md t) (m_d t))) (va_up (m_b t) (m_md t) (some b0))) (va_up (m_at t) (m_md t) (m_n t))) S1) (va_up K1 ((10 * (m_md t)) + i) (-1)))) rfl 12 (by decide) (hts (.fieldLink RX5 66 "DrillVaultModel" "made" "I") (by decide +kernel)) rfl (v := .int (nI (m_md t))) rfl dX5_makes_103 ?_
          refine lv_dup2_11 hx hb dX5_makes_106 rfl rfl ?_
          refine k_iald hx hb hK hW (kc_14 g ad (set_m_k (set_m_sz (set_m_at (set_m_b (set_m_on t (va_up (m_on t) (m_md t) (m_d t))) (va_up (m_b t) (m_md t) (some b0))) (va_up (m_at t) (m_md t) (m_n t))) S1) (va_up K1 ((10 * (m_md t)) + i) (-1)))) (m_md t) rfl (by omega) (by decide) dX5_makes_107 ?_
          refine k_tov (y := .int (nI (S1 (m_md t)))) rfl ?_
          refine lv_iload_n hx hb dX5_makes_108 rfl (lv_at hl 0 rfl) ?_
          refine lv_if_eq (tgt := 116) hx hb dX5_makes_109 (by decide) (fun h_109 => ?_) (fun h_109 => absurd h_109 (by decide))
          refine lv_iconst (v := nI 0) hx hb dX5_makes_116 (by decide) ?_
          refine k_iadd hx hb dX5_makes_117 ?_
          refine k_iast hx hb hK hW hS (kc_14 g ad (set_m_k (set_m_sz (set_m_at (set_m_b (set_m_on t (va_up (m_on t) (m_md t) (m_d t))) (va_up (m_b t) (m_md t) (some b0))) (va_up (m_at t) (m_md t) (m_n t))) S1) (va_up K1 ((10 * (m_md t)) + i) (-1)))) (m_md t) rfl (by omega) (by decide) dX5_makes_118 (fun H locs hW hS => ?_)
          have hW : k_H g ad (set_m_sz (set_m_k (set_m_at (set_m_b (set_m_on t (va_up (m_on t) (m_md t) (m_d t))) (va_up (m_b t) (m_md t) (some b0))) (va_up (m_at t) (m_md t) (m_n t))) (va_up K1 ((10 * (m_md t)) + i) (-1))) (va_up S1 (m_md t) ((S1 (m_md t)) + 0))) H := kt_m_sz (t := set_m_k (set_m_sz (set_m_at (set_m_b (set_m_on t (va_up (m_on t) (m_md t) (m_d t))) (va_up (m_b t) (m_md t) (some b0))) (va_up (m_at t) (m_md t) (m_n t))) S1) (va_up K1 ((10 * (m_md t)) + i) (-1))) (m_md t) ((S1 (m_md t)) + 0) rfl hW
          refine lv_iinc (v := nI (i + 1)) (lv' := [(2, .int (nI (i + 1))), (3, .int (nI 0)), (0, .ref (ad 9 0)), (1, .int (nI b0))]) hx hb dX5_makes_119 hl (k := 3) rfl (nI_add _ _) (by decide) rfl (fun ls hl => ?_)
          refine lv_goto (tgt := 38) hx hb dX5_makes_122 (by decide) ?_
          exact ih (i + 1) (va_up K1 ((10 * (m_md t)) + i) (-1)) (va_up S1 (m_md t) ((S1 (m_md t)) + 0)) (by omega) (by omega) (by rw [hKe]; exact k_KN_s (by rw [if_neg (fun q => absurd (of_decide_eq_true q) (by rw [← va_up_ne (m_at t) (m_n t) (Nat.ne_of_lt hb0)]; omega))])) (k_sz_s hSe (k_cb_n (decide_eq_false (by rw [← va_up_ne (m_at t) (m_n t) (Nat.ne_of_lt hb0)]; omega)))) _ _ hW hS _ (lv_sub hl [2, 3, 0] rfl)
        · refine lv_iconst (v := nI 1) hx hb dX5_makes_64 (by decide) ?_
          refine lv_goto (tgt := 69) hx hb dX5_makes_65 (by decide) ?_
          refine lv_istore_n (lv' := [(3, .int (nI 1)), (0, .ref (ad 9 0)), (1, .int (nI b0)), (2, .int (nI i))]) hx hb dX5_makes_69 rfl hl (by decide) rfl (fun ls hl => ?_)
          refine lv_aload_n hx hb dX5_makes_70 rfl (lv_at hl 1 rfl) ?_
          refine k_get (own := RX5) (C := RX5) (T := TX5) (N := 21) hx hb hts hinX5 hown hK hW (kc_9 g ad (set_m_sz (set_m_k (set_m_at (set_m_b (set_m_on t (va_up (m_on t) (m_md t) (m_d t))) (va_up (m_b t) (m_md t) (some b0))) (va_up (m_at t) (m_md t) (m_n t))) K1) S1)) rfl 8 (by decide) (hts (.fieldLink RX5 28 "DrillVaultModel" "kept" "[I") (by decide +kernel)) rfl (v := .ref (ad 16 0)) rfl dX5_makes_71 ?_
          refine lv_bipush (v := nI 10) hx hb dX5_makes_74 (by decide) ?_
          refine lv_aload_n hx hb dX5_makes_76 rfl (lv_at hl 1 rfl) ?_
          refine k_get (own := RX5) (C := RX5) (T := TX5) (N := 21) hx hb hts hinX5 hown hK hW (kc_9 g ad (set_m_sz (set_m_k (set_m_at (set_m_b (set_m_on t (va_up (m_on t) (m_md t) (m_d t))) (va_up (m_b t) (m_md t) (some b0))) (va_up (m_at t) (m_md t) (m_n t))) K1) S1)) rfl 12 (by decide) (hts (.fieldLink RX5 66 "DrillVaultModel" "made" "I") (by decide +kernel)) rfl (v := .int (nI (m_md t))) rfl dX5_makes_77 ?_
          refine k_imul hx hb dX5_makes_80 ?_
          refine lv_iload_n hx hb dX5_makes_81 rfl (lv_at hl 3 rfl) ?_
          refine k_iadd hx hb dX5_makes_82 ?_
          refine lv_iload_n hx hb dX5_makes_83 rfl (lv_at hl 0 rfl) ?_
          refine lv_if_eq (tgt := 96) hx hb dX5_makes_84 (by decide) (fun h_84 => absurd h_84 (by decide)) (fun h_84 => ?_)
          refine lv_aload_n hx hb dX5_makes_87 rfl (lv_at hl 1 rfl) ?_
          refine k_get (own := RX5) (C := RX5) (T := TX5) (N := 21) hx hb hts hinX5 hown hK hW (kc_9 g ad (set_m_sz (set_m_k (set_m_at (set_m_b (set_m_on t (va_up (m_on t) (m_md t) (m_d t))) (va_up (m_b t) (m_md t) (some b0))) (va_up (m_at t) (m_md t) (m_n t))) K1) S1)) rfl 0 (by decide) (hts (.fieldLink RX5 7 "DrillVaultModel" "contents" "[I") (by decide +kernel)) rfl (v := .ref (ad 10 0)) rfl dX5_makes_88 ?_
          refine lv_iload_n hx hb dX5_makes_91 rfl (lv_at hl 3 rfl) ?_
          refine k_iald hx hb hK hW (kc_10 g ad (set_m_sz (set_m_k (set_m_at (set_m_b (set_m_on t (va_up (m_on t) (m_md t) (m_d t))) (va_up (m_b t) (m_md t) (some b0))) (va_up (m_at t) (m_md t) (m_n t))) K1) S1)) i rfl (by omega) (by decide) dX5_makes_92 ?_
          refine k_tov (y := .int (m_c t i)) rfl ?_
          refine lv_goto (tgt := 97) hx hb dX5_makes_93 (by decide) ?_
          refine k_iast hx hb hK hW hS (kc_16 g ad (set_m_sz (set_m_k (set_m_at (set_m_b (set_m_on t (va_up (m_on t) (m_md t) (m_d t))) (va_up (m_b t) (m_md t) (some b0))) (va_up (m_at t) (m_md t) (m_n t))) K1) S1)) ((10 * (m_md t)) + i) rfl (by omega) (by decide) dX5_makes_97 (fun H locs hW hS => ?_)
          have hW : k_H g ad (set_m_k (set_m_sz (set_m_at (set_m_b (set_m_on t (va_up (m_on t) (m_md t) (m_d t))) (va_up (m_b t) (m_md t) (some b0))) (va_up (m_at t) (m_md t) (m_n t))) S1) (va_up K1 ((10 * (m_md t)) + i) (m_c t i))) H := kt_m_k (t := set_m_sz (set_m_k (set_m_at (set_m_b (set_m_on t (va_up (m_on t) (m_md t) (m_d t))) (va_up (m_b t) (m_md t) (some b0))) (va_up (m_at t) (m_md t) (m_n t))) K1) S1) ((10 * (m_md t)) + i) (m_c t i) rfl hW
          refine lv_aload_n hx hb dX5_makes_98 rfl (lv_at hl 1 rfl) ?_
          refine k_get (own := RX5) (C := RX5) (T := TX5) (N := 21) hx hb hts hinX5 hown hK hW (kc_9 g ad (set_m_k (set_m_sz (set_m_at (set_m_b (set_m_on t (va_up (m_on t) (m_md t) (m_d t))) (va_up (m_b t) (m_md t) (some b0))) (va_up (m_at t) (m_md t) (m_n t))) S1) (va_up K1 ((10 * (m_md t)) + i) (m_c t i)))) rfl 6 (by decide) (hts (.fieldLink RX5 22 "DrillVaultModel" "sizes" "[I") (by decide +kernel)) rfl (v := .ref (ad 14 0)) rfl dX5_makes_99 ?_
          refine lv_aload_n hx hb dX5_makes_102 rfl (lv_at hl 1 rfl) ?_
          refine k_get (own := RX5) (C := RX5) (T := TX5) (N := 21) hx hb hts hinX5 hown hK hW (kc_9 g ad (set_m_k (set_m_sz (set_m_at (set_m_b (set_m_on t (va_up (m_on t) (m_md t) (m_d t))) (va_up (m_b t) (m_md t) (some b0))) (va_up (m_at t) (m_md t) (m_n t))) S1) (va_up K1 ((10 * (m_md t)) + i) (m_c t i)))) rfl 12 (by decide) (hts (.fieldLink RX5 66 "DrillVaultModel" "made" "I") (by decide +kernel)) rfl (v := .int (nI (m_md t))) rfl dX5_makes_103 ?_
          refine lv_dup2_11 hx hb dX5_makes_106 rfl rfl ?_
          refine k_iald hx hb hK hW (kc_14 g ad (set_m_k (set_m_sz (set_m_at (set_m_b (set_m_on t (va_up (m_on t) (m_md t) (m_d t))) (va_up (m_b t) (m_md t) (some b0))) (va_up (m_at t) (m_md t) (m_n t))) S1) (va_up K1 ((10 * (m_md t)) + i) (m_c t i)))) (m_md t) rfl (by omega) (by decide) dX5_makes_107 ?_
          refine k_tov (y := .int (nI (S1 (m_md t)))) rfl ?_
          refine lv_iload_n hx hb dX5_makes_108 rfl (lv_at hl 0 rfl) ?_
          refine lv_if_eq (tgt := 116) hx hb dX5_makes_109 (by decide) (fun h_109 => absurd h_109 (by decide)) (fun h_109 => ?_)
          refine lv_iconst (v := nI 1) hx hb dX5_makes_112 (by decide) ?_
          refine lv_goto (tgt := 117) hx hb dX5_makes_113 (by decide) ?_
          refine k_iadd hx hb dX5_makes_117 ?_
          refine k_iast hx hb hK hW hS (kc_14 g ad (set_m_k (set_m_sz (set_m_at (set_m_b (set_m_on t (va_up (m_on t) (m_md t) (m_d t))) (va_up (m_b t) (m_md t) (some b0))) (va_up (m_at t) (m_md t) (m_n t))) S1) (va_up K1 ((10 * (m_md t)) + i) (m_c t i)))) (m_md t) rfl (by omega) (by decide) dX5_makes_118 (fun H locs hW hS => ?_)
          have hW : k_H g ad (set_m_sz (set_m_k (set_m_at (set_m_b (set_m_on t (va_up (m_on t) (m_md t) (m_d t))) (va_up (m_b t) (m_md t) (some b0))) (va_up (m_at t) (m_md t) (m_n t))) (va_up K1 ((10 * (m_md t)) + i) (m_c t i))) (va_up S1 (m_md t) ((S1 (m_md t)) + 1))) H := kt_m_sz (t := set_m_k (set_m_sz (set_m_at (set_m_b (set_m_on t (va_up (m_on t) (m_md t) (m_d t))) (va_up (m_b t) (m_md t) (some b0))) (va_up (m_at t) (m_md t) (m_n t))) S1) (va_up K1 ((10 * (m_md t)) + i) (m_c t i))) (m_md t) ((S1 (m_md t)) + 1) rfl hW
          refine lv_iinc (v := nI (i + 1)) (lv' := [(2, .int (nI (i + 1))), (3, .int (nI 1)), (0, .ref (ad 9 0)), (1, .int (nI b0))]) hx hb dX5_makes_119 hl (k := 3) rfl (nI_add _ _) (by decide) rfl (fun ls hl => ?_)
          refine lv_goto (tgt := 38) hx hb dX5_makes_122 (by decide) ?_
          exact ih (i + 1) (va_up K1 ((10 * (m_md t)) + i) (m_c t i)) (va_up S1 (m_md t) ((S1 (m_md t)) + 1)) (by omega) (by omega) (by rw [hKe]; exact k_KN_s (by rw [if_pos (decide_eq_true (by rw [← va_up_ne (m_at t) (m_n t) (Nat.ne_of_lt hb0)]; exact h_61))])) (k_sz_s hSe (k_cb_y (decide_eq_true (by rw [← va_up_ne (m_at t) (m_n t) (Nat.ne_of_lt hb0)]; exact h_61)))) _ _ hW hS _ (lv_sub hl [2, 3, 0] rfl)
  exact hloop_38 11 0 (m_k t) (m_sz t) (by omega) (by omega) k_KN_0 (k_sz_0 hsz) _ _ hW hS _ (lv_sub hl [1, 2, 0] rfl)
abbrev rm_X5_full : Room := { frames := 1, cells := 0, slots := 0, locals := 23 }
set_option maxRecDepth 100000 in
set_option maxHeartbeats 4000000 in
theorem c_X5_full_is (l : Launch) (hlt : l.stackTraces = false) (g : k_g) (ad : k_AD) (t : k_T) (hm : m_md t = 60) : Met l yX5_full wsX5_full rm_X5_full (va_Pc [.ref (ad 9 0)] (k_I g (k_ct g ad t) ad)) (va_Qi (fun r u => r = nI 0 ∧ u = set_m_l t 1) (fun u U => k_H g ad u U.heap) (k_A g)) 0 0 (k_A g) := by
  refine k_met (cc := cX5_full) (maxL := 1) (ret := (some .int)) (by decide) rfl (Nat.le_of_ble_eq_true rfl) (fun p e s m args below meth c Q ls hQ hx hb hr hml hts hown hlk hin hK hZ hN hW hS hl => ?_)
  have hown : s.vm.findClass RX5 = some m.cls := hown
  have hW : k_H g ad t s.heap := hW
  have hl : lv_has ls 1 [(0, .ref (ad 9 0))] := hl
  have hinX5 : ∀ w ∈ wsX50, w ∈ wsX5_full := by decide +kernel
  refine lv_aload_n hx hb dX5_full_0 rfl (lv_at hl 0 rfl) ?_
  refine lv_aload_n hx hb dX5_full_1 rfl (lv_at hl 0 rfl) ?_
  refine k_get (own := RX5) (C := RX5) (T := TX5) (N := 21) hx hb hts hinX5 hown hK hW (kc_9 g ad t) rfl 12 (by decide) (hts (.fieldLink RX5 66 "DrillVaultModel" "made" "I") (by decide +kernel)) rfl (v := .int (nI (m_md t))) rfl dX5_full_2 ?_
  refine lv_bipush (v := nI 60) hx hb dX5_full_5 (by decide) ?_
  refine k_icmp_ge (tgt := 14) hx hb (a := m_md t) (b := 60) (by omega) (by decide) dX5_full_7 (by decide) (fun h_7 => ?_) (fun h_7 => absurd h_7 (by omega))
  refine lv_iconst (v := nI 0) hx hb dX5_full_14 (by decide) ?_
  refine lv_iconst (v := nI 1) hx hb dX5_full_15 (by decide) ?_
  refine lv_iconst (v := nI 1) hx hb dX5_full_16 (by decide) ?_
  refine k_ci (va_runV (As := [.int (nI 0), .int (nI 1), .int (nI 1)]) (rest := []) ⟨hx, hb, hml, hown, hts⟩ (c_X5_goes_1 l hlt g ad t (nI 1) (nI 1) ) (cwV 3 hts gX5_full_X5_goes rfl rfl rfl (by decide +kernel) ⟨(Nat.le_of_ble_eq_true rfl), (Nat.le_of_ble_eq_true rfl)⟩) ⟨k_blind, k_recv hK hW (kc_9 g ad t) rfl, fun U hU hw => ⟨rfl, k_I.of hK hZ hN hS hW hU hw⟩⟩ rfl rfl hl.1 rfl (lv_room (Nat.le_of_ble_eq_true rfl)) dX5_full_17 ⟨(Nat.le_of_ble_eq_true rfl), (Nat.le_of_ble_eq_true rfl)⟩) hS (fun r u H locs hpo hW hS => ?_)
  obtain ⟨hr9, hu9⟩ := hpo; replace hu9 := hu9.symm; subst hu9; replace hr9 := hr9.symm; subst hr9
  have hW : k_H g ad (set_m_l t 1) H := hW
  refine lv_if_eq (tgt := 31) hx hb dX5_full_20 (by decide) (fun h_20 => ?_) (fun h_20 => absurd h_20 (by decide))
  refine lv_iconst (v := nI 0) hx hb dX5_full_31 (by decide) ?_
  exact k_ri hQ hx hb hr hlk hS hW ⟨rfl, rfl⟩ (Nat.le_of_ble_eq_true rfl) (Nat.le_of_ble_eq_true rfl) dX5_full_32
set_option maxRecDepth 100000 in
set_option maxHeartbeats 4000000 in
theorem c_X5_full_ok (l : Launch) (hlt : l.stackTraces = false) (g : k_g) (ad : k_AD) (t : k_T) (hm : m_md t < 60) (hsz : m_sz t (m_md t) = 0) (hn3 : m_n t ≤ 300) : Met l yX5_full wsX5_full rm_X5_full (va_Pc [.ref (ad 9 0)] (k_I g (k_ct g ad t) ad)) (va_Qi (fun r u => r = nI (m_md t) ∧ u = set_m_md (set_m_th (set_m_sz (set_m_k (set_m_at (set_m_b (set_m_on (set_m_l t 0) (va_up (m_on t) (m_md t) (m_d t))) (va_up (m_b t) (m_md t) none)) (va_up (m_at t) (m_md t) (m_n t))) (k_KN (m_md t) (fun _ => true) (m_c t) (m_k t) 10)) (va_up (m_sz t) (m_md t) (k_cb (fun _ => true) 10))) (va_up (m_th t) (m_md t) true)) (m_md t + 1)) (fun u U => k_H g ad u U.heap) (k_A g)) 0 0 (k_A g) := by
  refine k_met (cc := cX5_full) (maxL := 1) (ret := (some .int)) (by decide) rfl (Nat.le_of_ble_eq_true rfl) (fun p e s m args below meth c Q ls hQ hx hb hr hml hts hown hlk hin hK hZ hN hW hS hl => ?_)
  have hown : s.vm.findClass RX5 = some m.cls := hown
  have hW : k_H g ad t s.heap := hW
  have hl : lv_has ls 1 [(0, .ref (ad 9 0))] := hl
  have hinX5 : ∀ w ∈ wsX50, w ∈ wsX5_full := by decide +kernel
  refine lv_aload_n hx hb dX5_full_0 rfl (lv_at hl 0 rfl) ?_
  refine lv_aload_n hx hb dX5_full_1 rfl (lv_at hl 0 rfl) ?_
  refine k_get (own := RX5) (C := RX5) (T := TX5) (N := 21) hx hb hts hinX5 hown hK hW (kc_9 g ad t) rfl 12 (by decide) (hts (.fieldLink RX5 66 "DrillVaultModel" "made" "I") (by decide +kernel)) rfl (v := .int (nI (m_md t))) rfl dX5_full_2 ?_
  refine lv_bipush (v := nI 60) hx hb dX5_full_5 (by decide) ?_
  refine k_icmp_ge (tgt := 14) hx hb (a := m_md t) (b := 60) (by omega) (by decide) dX5_full_7 (by decide) (fun h_7 => absurd h_7 (by omega)) (fun h_7 => ?_)
  refine lv_iconst (v := nI 1) hx hb dX5_full_10 (by decide) ?_
  refine lv_goto (tgt := 15) hx hb dX5_full_11 (by decide) ?_
  refine lv_iconst (v := nI 1) hx hb dX5_full_15 (by decide) ?_
  refine lv_iconst (v := nI 1) hx hb dX5_full_16 (by decide) ?_
  refine k_ci (va_runV (As := [.int (nI 1), .int (nI 1), .int (nI 1)]) (rest := []) ⟨hx, hb, hml, hown, hts⟩ (c_X5_goes_0 l hlt g ad t ) (cwV 3 hts gX5_full_X5_goes rfl rfl rfl (by decide +kernel) ⟨(Nat.le_of_ble_eq_true rfl), (Nat.le_of_ble_eq_true rfl)⟩) ⟨k_blind, k_recv hK hW (kc_9 g ad t) rfl, fun U hU hw => ⟨rfl, k_I.of hK hZ hN hS hW hU hw⟩⟩ rfl rfl hl.1 rfl (lv_room (Nat.le_of_ble_eq_true rfl)) dX5_full_17 ⟨(Nat.le_of_ble_eq_true rfl), (Nat.le_of_ble_eq_true rfl)⟩) hS (fun r u H locs hpo hW hS => ?_)
  obtain ⟨hr9, hu9⟩ := hpo; replace hu9 := hu9.symm; subst hu9; replace hr9 := hr9.symm; subst hr9
  have hW : k_H g ad (set_m_l t 0) H := hW
  refine lv_if_eq (tgt := 31) hx hb dX5_full_20 (by decide) (fun h_20 => absurd h_20 (by decide)) (fun h_20 => ?_)
  refine lv_aload_n hx hb dX5_full_23 rfl (lv_at hl 0 rfl) ?_
  refine lv_iconst (v := (-1)) hx hb dX5_full_24 (by decide) ?_
  refine k_ci (va_runV (As := [.int (-1)]) (rest := []) ⟨hx, hb, hml, hown, hts⟩ (c_X5_makes_n l hlt g ad (set_m_l t 0) hm hsz hn3) (cwV 1 hts gX5_full_X5_makes rfl rfl rfl (by decide +kernel) ⟨(Nat.le_of_ble_eq_true rfl), (Nat.le_of_ble_eq_true rfl)⟩) ⟨k_blind, k_recv hK hW (kc_9 g ad (set_m_l t 0)) rfl, fun U hU hw => ⟨rfl, k_I.of hK hZ hN hS hW hU hw⟩⟩ rfl rfl hl.1 rfl (lv_room (Nat.le_of_ble_eq_true rfl)) dX5_full_25 ⟨(Nat.le_of_ble_eq_true rfl), (Nat.le_of_ble_eq_true rfl)⟩) hS (fun r u H locs hpo hW hS => ?_)
  obtain ⟨hr9, hu9⟩ := hpo; replace hu9 := hu9.symm; subst hu9; replace hr9 := hr9.symm; subst hr9
  have hW : k_H g ad (set_m_md (set_m_th (set_m_sz (set_m_k (set_m_at (set_m_b (set_m_on (set_m_l t 0) (va_up (m_on t) (m_md t) (m_d t))) (va_up (m_b t) (m_md t) none)) (va_up (m_at t) (m_md t) (m_n t))) (k_KN (m_md t) (fun _ => true) (m_c t) (m_k t) 10)) (va_up (m_sz t) (m_md t) (k_cb (fun _ => true) 10))) (va_up (m_th t) (m_md t) true)) (m_md t + 1)) H := hW
  refine lv_goto (tgt := 32) hx hb dX5_full_28 (by decide) ?_
  exact k_ri hQ hx hb hr hlk hS hW ⟨rfl, rfl⟩ (Nat.le_of_ble_eq_true rfl) (Nat.le_of_ble_eq_true rfl) dX5_full_32
abbrev rm_X5_increment : Room := { frames := 1, cells := 0, slots := 0, locals := 23 }
set_option maxRecDepth 100000 in
set_option maxHeartbeats 4000000 in
theorem c_X5_increment_i1 (l : Launch) (hlt : l.stackTraces = false) (g : k_g) (ad : k_AD) (t : k_T) (hm : m_md t = 60) : Met l yX5_increment wsX5_increment rm_X5_increment (va_Pc [.ref (ad 9 0)] (k_I g (k_ct g ad t) ad)) (va_Qi (fun r u => r = nI 0 ∧ u = set_m_l t 1) (fun u U => k_H g ad u U.heap) (k_A g)) 0 0 (k_A g) := by
  refine k_met (cc := cX5_increment) (maxL := 1) (ret := (some .int)) (by decide) rfl (Nat.le_of_ble_eq_true rfl) (fun p e s m args below meth c Q ls hQ hx hb hr hml hts hown hlk hin hK hZ hN hW hS hl => ?_)
  have hown : s.vm.findClass RX5 = some m.cls := hown
  have hW : k_H g ad t s.heap := hW
  have hl : lv_has ls 1 [(0, .ref (ad 9 0))] := hl
  have hinX5 : ∀ w ∈ wsX50, w ∈ wsX5_increment := by decide +kernel
  refine lv_aload_n hx hb dX5_increment_0 rfl (lv_at hl 0 rfl) ?_
  refine lv_aload_n hx hb dX5_increment_1 rfl (lv_at hl 0 rfl) ?_
  refine k_get (own := RX5) (C := RX5) (T := TX5) (N := 21) hx hb hts hinX5 hown hK hW (kc_9 g ad t) rfl 12 (by decide) (hts (.fieldLink RX5 66 "DrillVaultModel" "made" "I") (by decide +kernel)) rfl (v := .int (nI (m_md t))) rfl dX5_increment_2 ?_
  refine lv_bipush (v := nI 60) hx hb dX5_increment_5 (by decide) ?_
  refine k_icmp_ge (tgt := 22) hx hb (a := m_md t) (b := 60) (by omega) (by decide) dX5_increment_7 (by decide) (fun h_7 => ?_) (fun h_7 => absurd h_7 (by omega))
  refine lv_iconst (v := nI 0) hx hb dX5_increment_22 (by decide) ?_
  refine lv_iconst (v := nI 1) hx hb dX5_increment_23 (by decide) ?_
  refine lv_iconst (v := nI 1) hx hb dX5_increment_24 (by decide) ?_
  refine k_ci (va_runV (As := [.int (nI 0), .int (nI 1), .int (nI 1)]) (rest := []) ⟨hx, hb, hml, hown, hts⟩ (c_X5_goes_1 l hlt g ad t (nI 1) (nI 1) ) (cwV 3 hts gX5_increment_X5_goes rfl rfl rfl (by decide +kernel) ⟨(Nat.le_of_ble_eq_true rfl), (Nat.le_of_ble_eq_true rfl)⟩) ⟨k_blind, k_recv hK hW (kc_9 g ad t) rfl, fun U hU hw => ⟨rfl, k_I.of hK hZ hN hS hW hU hw⟩⟩ rfl rfl hl.1 rfl (lv_room (Nat.le_of_ble_eq_true rfl)) dX5_increment_25 ⟨(Nat.le_of_ble_eq_true rfl), (Nat.le_of_ble_eq_true rfl)⟩) hS (fun r u H locs hpo hW hS => ?_)
  obtain ⟨hr9, hu9⟩ := hpo; replace hu9 := hu9.symm; subst hu9; replace hr9 := hr9.symm; subst hr9
  have hW : k_H g ad (set_m_l t 1) H := hW
  refine lv_if_eq (tgt := 42) hx hb dX5_increment_28 (by decide) (fun h_28 => ?_) (fun h_28 => absurd h_28 (by decide))
  refine lv_iconst (v := nI 0) hx hb dX5_increment_42 (by decide) ?_
  exact k_ri hQ hx hb hr hlk hS hW ⟨rfl, rfl⟩ (Nat.le_of_ble_eq_true rfl) (Nat.le_of_ble_eq_true rfl) dX5_increment_43
set_option maxRecDepth 100000 in
set_option maxHeartbeats 4000000 in
theorem c_X5_increment_i2 (l : Launch) (hlt : l.stackTraces = false) (g : k_g) (ad : k_AD) (t : k_T) (hm : m_md t < 60) (hla : k_la (m_th t) (m_md t) = none) : Met l yX5_increment wsX5_increment rm_X5_increment (va_Pc [.ref (ad 9 0)] (k_I g (k_ct g ad t) ad)) (va_Qi (fun r u => r = nI 0 ∧ u = set_m_l t 1) (fun u U => k_H g ad u U.heap) (k_A g)) 0 0 (k_A g) := by
  refine k_met (cc := cX5_increment) (maxL := 1) (ret := (some .int)) (by decide) rfl (Nat.le_of_ble_eq_true rfl) (fun p e s m args below meth c Q ls hQ hx hb hr hml hts hown hlk hin hK hZ hN hW hS hl => ?_)
  have hown : s.vm.findClass RX5 = some m.cls := hown
  have hW : k_H g ad t s.heap := hW
  have hl : lv_has ls 1 [(0, .ref (ad 9 0))] := hl
  have hinX5 : ∀ w ∈ wsX50, w ∈ wsX5_increment := by decide +kernel
  refine lv_aload_n hx hb dX5_increment_0 rfl (lv_at hl 0 rfl) ?_
  refine lv_aload_n hx hb dX5_increment_1 rfl (lv_at hl 0 rfl) ?_
  refine k_get (own := RX5) (C := RX5) (T := TX5) (N := 21) hx hb hts hinX5 hown hK hW (kc_9 g ad t) rfl 12 (by decide) (hts (.fieldLink RX5 66 "DrillVaultModel" "made" "I") (by decide +kernel)) rfl (v := .int (nI (m_md t))) rfl dX5_increment_2 ?_
  refine lv_bipush (v := nI 60) hx hb dX5_increment_5 (by decide) ?_
  refine k_icmp_ge (tgt := 22) hx hb (a := m_md t) (b := 60) (by omega) (by decide) dX5_increment_7 (by decide) (fun h_7 => absurd h_7 (by omega)) (fun h_7 => ?_)
  refine lv_aload_n hx hb dX5_increment_10 rfl (lv_at hl 0 rfl) ?_
  refine k_ci (va_runV (As := []) (rest := [.ref (ad 9 0)]) ⟨hx, hb, hml, hown, hts⟩ (c_X5_latest l hlt g ad t (Nat.le_of_lt hm)) (cwV 0 hts gX5_increment_X5_latest rfl rfl rfl (by decide +kernel) ⟨(Nat.le_of_ble_eq_true rfl), (Nat.le_of_ble_eq_true rfl)⟩) ⟨k_blind, k_recv hK hW (kc_9 g ad t) rfl, fun U hU hw => ⟨rfl, k_I.of hK hZ hN hS hW hU hw⟩⟩ rfl rfl hl.1 rfl (lv_room (Nat.le_of_ble_eq_true rfl)) dX5_increment_11 ⟨(Nat.le_of_ble_eq_true rfl), (Nat.le_of_ble_eq_true rfl)⟩) hS (fun r u H locs hpo hW hS => ?_)
  obtain ⟨hr9, hu9⟩ := hpo; replace hu9 := hu9.symm; subst hu9; replace hr9 := hr9.symm; subst hr9
  refine k_tov (y := .int (-1)) (by rw [show k_la _ _ = _ from hla]; rfl) ?_
  refine lv_iconst (v := (-1)) hx hb dX5_increment_14 (by decide) ?_
  refine lv_icmp_eq (tgt := 22) hx hb dX5_increment_15 (by decide) (fun h_15 => ?_) (fun h_15 => absurd rfl h_15)
  refine lv_iconst (v := nI 0) hx hb dX5_increment_22 (by decide) ?_
  refine lv_iconst (v := nI 1) hx hb dX5_increment_23 (by decide) ?_
  refine lv_iconst (v := nI 1) hx hb dX5_increment_24 (by decide) ?_
  refine k_ci (va_runV (As := [.int (nI 0), .int (nI 1), .int (nI 1)]) (rest := []) ⟨hx, hb, hml, hown, hts⟩ (c_X5_goes_1 l hlt g ad t (nI 1) (nI 1) ) (cwV 3 hts gX5_increment_X5_goes rfl rfl rfl (by decide +kernel) ⟨(Nat.le_of_ble_eq_true rfl), (Nat.le_of_ble_eq_true rfl)⟩) ⟨k_blind, k_recv hK hW (kc_9 g ad t) rfl, fun U hU hw => ⟨rfl, k_I.of hK hZ hN hS hW hU hw⟩⟩ rfl rfl hl.1 rfl (lv_room (Nat.le_of_ble_eq_true rfl)) dX5_increment_25 ⟨(Nat.le_of_ble_eq_true rfl), (Nat.le_of_ble_eq_true rfl)⟩) hS (fun r u H locs hpo hW hS => ?_)
  obtain ⟨hr9, hu9⟩ := hpo; replace hu9 := hu9.symm; subst hu9; replace hr9 := hr9.symm; subst hr9
  have hW : k_H g ad (set_m_l t 1) H := hW
  refine lv_if_eq (tgt := 42) hx hb dX5_increment_28 (by decide) (fun h_28 => ?_) (fun h_28 => absurd h_28 (by decide))
  refine lv_iconst (v := nI 0) hx hb dX5_increment_42 (by decide) ?_
  exact k_ri hQ hx hb hr hlk hS hW ⟨rfl, rfl⟩ (Nat.le_of_ble_eq_true rfl) (Nat.le_of_ble_eq_true rfl) dX5_increment_43
set_option maxRecDepth 100000 in
set_option maxHeartbeats 4000000 in
theorem c_X5_increment_ok (l : Launch) (hlt : l.stackTraces = false) (g : k_g) (ad : k_AD) (t : k_T) (b0 : Nat) (hm : m_md t < 60) (hla : k_la (m_th t) (m_md t) = some b0) (hsz : m_sz t (m_md t) = 0) (hn3 : m_n t ≤ 300) (hb0 : b0 < m_md t) (hch : ∀ i, i < 10 → m_ch t i ≤ 300) (hat : ∀ k, k < m_md t → m_at t k ≤ 300) : Met l yX5_increment wsX5_increment rm_X5_increment (va_Pc [.ref (ad 9 0)] (k_I g (k_ct g ad t) ad)) (va_Qi (fun r u => r = nI (m_md t) ∧ u = set_m_md (set_m_th (set_m_sz (set_m_k (set_m_at (set_m_b (set_m_on (set_m_l t 0) (va_up (m_on t) (m_md t) (m_d t))) (va_up (m_b t) (m_md t) (some b0))) (va_up (m_at t) (m_md t) (m_n t))) (k_KN (m_md t) (fun f => decide ((m_at t) b0 < (m_ch t) f)) (m_c t) (m_k t) 10)) (va_up (m_sz t) (m_md t) (k_cb (fun f => decide ((m_at t) b0 < (m_ch t) f)) 10))) (va_up (m_th t) (m_md t) true)) (m_md t + 1)) (fun u U => k_H g ad u U.heap) (k_A g)) 0 0 (k_A g) := by
  refine k_met (cc := cX5_increment) (maxL := 1) (ret := (some .int)) (by decide) rfl (Nat.le_of_ble_eq_true rfl) (fun p e s m args below meth c Q ls hQ hx hb hr hml hts hown hlk hin hK hZ hN hW hS hl => ?_)
  have hown : s.vm.findClass RX5 = some m.cls := hown
  have hW : k_H g ad t s.heap := hW
  have hl : lv_has ls 1 [(0, .ref (ad 9 0))] := hl
  have hinX5 : ∀ w ∈ wsX50, w ∈ wsX5_increment := by decide +kernel
  refine lv_aload_n hx hb dX5_increment_0 rfl (lv_at hl 0 rfl) ?_
  refine lv_aload_n hx hb dX5_increment_1 rfl (lv_at hl 0 rfl) ?_
  refine k_get (own := RX5) (C := RX5) (T := TX5) (N := 21) hx hb hts hinX5 hown hK hW (kc_9 g ad t) rfl 12 (by decide) (hts (.fieldLink RX5 66 "DrillVaultModel" "made" "I") (by decide +kernel)) rfl (v := .int (nI (m_md t))) rfl dX5_increment_2 ?_
  refine lv_bipush (v := nI 60) hx hb dX5_increment_5 (by decide) ?_
  refine k_icmp_ge (tgt := 22) hx hb (a := m_md t) (b := 60) (by omega) (by decide) dX5_increment_7 (by decide) (fun h_7 => absurd h_7 (by omega)) (fun h_7 => ?_)
  refine lv_aload_n hx hb dX5_increment_10 rfl (lv_at hl 0 rfl) ?_
  refine k_ci (va_runV (As := []) (rest := [.ref (ad 9 0)]) ⟨hx, hb, hml, hown, hts⟩ (c_X5_latest l hlt g ad t (Nat.le_of_lt hm)) (cwV 0 hts gX5_increment_X5_latest rfl rfl rfl (by decide +kernel) ⟨(Nat.le_of_ble_eq_true rfl), (Nat.le_of_ble_eq_true rfl)⟩) ⟨k_blind, k_recv hK hW (kc_9 g ad t) rfl, fun U hU hw => ⟨rfl, k_I.of hK hZ hN hS hW hU hw⟩⟩ rfl rfl hl.1 rfl (lv_room (Nat.le_of_ble_eq_true rfl)) dX5_increment_11 ⟨(Nat.le_of_ble_eq_true rfl), (Nat.le_of_ble_eq_true rfl)⟩) hS (fun r u H locs hpo hW hS => ?_)
  obtain ⟨hr9, hu9⟩ := hpo; replace hu9 := hu9.symm; subst hu9; replace hr9 := hr9.symm; subst hr9
  refine k_tov (y := .int (nI b0)) (by rw [show k_la _ _ = _ from hla]; rfl) ?_
  refine lv_iconst (v := (-1)) hx hb dX5_increment_14 (by decide) ?_
  refine lv_icmp_eq (tgt := 22) hx hb dX5_increment_15 (by decide) (fun h_15 => absurd h_15 (k_nm1 (by omega))) (fun h_15 => ?_)
  refine lv_iconst (v := nI 1) hx hb dX5_increment_18 (by decide) ?_
  refine lv_goto (tgt := 23) hx hb dX5_increment_19 (by decide) ?_
  refine lv_iconst (v := nI 1) hx hb dX5_increment_23 (by decide) ?_
  refine lv_iconst (v := nI 1) hx hb dX5_increment_24 (by decide) ?_
  refine k_ci (va_runV (As := [.int (nI 1), .int (nI 1), .int (nI 1)]) (rest := []) ⟨hx, hb, hml, hown, hts⟩ (c_X5_goes_0 l hlt g ad t ) (cwV 3 hts gX5_increment_X5_goes rfl rfl rfl (by decide +kernel) ⟨(Nat.le_of_ble_eq_true rfl), (Nat.le_of_ble_eq_true rfl)⟩) ⟨k_blind, k_recv hK hW (kc_9 g ad t) rfl, fun U hU hw => ⟨rfl, k_I.of hK hZ hN hS hW hU hw⟩⟩ rfl rfl hl.1 rfl (lv_room (Nat.le_of_ble_eq_true rfl)) dX5_increment_25 ⟨(Nat.le_of_ble_eq_true rfl), (Nat.le_of_ble_eq_true rfl)⟩) hS (fun r u H locs hpo hW hS => ?_)
  obtain ⟨hr9, hu9⟩ := hpo; replace hu9 := hu9.symm; subst hu9; replace hr9 := hr9.symm; subst hr9
  have hW : k_H g ad (set_m_l t 0) H := hW
  refine lv_if_eq (tgt := 42) hx hb dX5_increment_28 (by decide) (fun h_28 => absurd h_28 (by decide)) (fun h_28 => ?_)
  refine lv_aload_n hx hb dX5_increment_31 rfl (lv_at hl 0 rfl) ?_
  refine lv_aload_n hx hb dX5_increment_32 rfl (lv_at hl 0 rfl) ?_
  refine k_ci (va_runV (As := []) (rest := [.ref (ad 9 0)]) ⟨hx, hb, hml, hown, hts⟩ (c_X5_latest l hlt g ad (set_m_l t 0) (Nat.le_of_lt hm)) (cwV 0 hts gX5_increment_X5_latest rfl rfl rfl (by decide +kernel) ⟨(Nat.le_of_ble_eq_true rfl), (Nat.le_of_ble_eq_true rfl)⟩) ⟨k_blind, k_recv hK hW (kc_9 g ad (set_m_l t 0)) rfl, fun U hU hw => ⟨rfl, k_I.of hK hZ hN hS hW hU hw⟩⟩ rfl rfl hl.1 rfl (lv_room (Nat.le_of_ble_eq_true rfl)) dX5_increment_33 ⟨(Nat.le_of_ble_eq_true rfl), (Nat.le_of_ble_eq_true rfl)⟩) hS (fun r u H locs hpo hW hS => ?_)
  obtain ⟨hr9, hu9⟩ := hpo; replace hu9 := hu9.symm; subst hu9; replace hr9 := hr9.symm; subst hr9
  refine k_tov (y := .int (nI b0)) (by rw [show k_la _ _ = _ from hla]; rfl) ?_
  refine k_ci (va_runV (As := [.int (nI b0)]) (rest := []) ⟨hx, hb, hml, hown, hts⟩ (c_X5_makes_s l hlt g ad (set_m_l t 0) b0 hm hsz hn3 hb0 hch hat) (cwV 1 hts gX5_increment_X5_makes rfl rfl rfl (by decide +kernel) ⟨(Nat.le_of_ble_eq_true rfl), (Nat.le_of_ble_eq_true rfl)⟩) ⟨k_blind, k_recv hK hW (kc_9 g ad (set_m_l t 0)) rfl, fun U hU hw => ⟨rfl, k_I.of hK hZ hN hS hW hU hw⟩⟩ rfl rfl hl.1 rfl (lv_room (Nat.le_of_ble_eq_true rfl)) dX5_increment_36 ⟨(Nat.le_of_ble_eq_true rfl), (Nat.le_of_ble_eq_true rfl)⟩) hS (fun r u H locs hpo hW hS => ?_)
  obtain ⟨hr9, hu9⟩ := hpo; replace hu9 := hu9.symm; subst hu9; replace hr9 := hr9.symm; subst hr9
  have hW : k_H g ad (set_m_md (set_m_th (set_m_sz (set_m_k (set_m_at (set_m_b (set_m_on (set_m_l t 0) (va_up (m_on t) (m_md t) (m_d t))) (va_up (m_b t) (m_md t) (some b0))) (va_up (m_at t) (m_md t) (m_n t))) (k_KN (m_md t) (fun f => decide ((m_at t) b0 < (m_ch t) f)) (m_c t) (m_k t) 10)) (va_up (m_sz t) (m_md t) (k_cb (fun f => decide ((m_at t) b0 < (m_ch t) f)) 10))) (va_up (m_th t) (m_md t) true)) (m_md t + 1)) H := hW
  refine lv_goto (tgt := 43) hx hb dX5_increment_39 (by decide) ?_
  exact k_ri hQ hx hb hr hlk hS hW ⟨rfl, rfl⟩ (Nat.le_of_ble_eq_true rfl) (Nat.le_of_ble_eq_true rfl) dX5_increment_43
