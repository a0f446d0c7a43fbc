abbrev rm_L_acts : Room := { frames := 9, cells := 24, slots := 171, locals := 161 }
set_option maxRecDepth 100000 in
set_option maxHeartbeats 4000000 in
theorem c_L_acts_change (l : Launch) (hlt : l.stackTraces = false) (g : k_g) (ad : k_AD) (t : k_T) (e9 : Nat) (wy : Nat) (z : Nat) (hJ : q_J e9 t) (he : e9 ≤ 190) (hw1 : 0 ≤ wy) (hw2 : wy < 5) (hzz : z < 10000000) : Met l yL_acts wsL_acts rm_L_acts (va_Pc [.ref (ad 0 0), .ref (ad 9 0), .ref (ad 10 0), .ref (ad 11 0), .ref (ad 12 0), .ref (ad 13 0), .int (nI wy), .int (nI z)] (k_I g (k_ct g ad t) ad)) (va_Qi (S := k_T × k_AD) (fun r u => r = nI 1 ∧ q_J (e9 + 1) u.1 ∧ ∀ a b, a ≠ 25 → a ≠ 26 → u.2 a b = ad a b) (fun u U => k_H g u.2 u.1 U.heap) (k_A g)) 24 171 (k_A g) := by
  refine k_met (cc := cL_acts) (maxL := 15) (ret := (some .boolean)) (by decide) rfl (Nat.le_of_ble_eq_true rfl) (fun p e s m args below meth c Q ls hQ hx hb hr hml hts hown hlk hin hK hZ hN hW hS hl => ?_)
  have hown : s.vm.findClass RL = some m.cls := hown
  have hW : k_H g ad t s.heap := hW
  have hl : lv_has ls 15 [(0, .ref (ad 0 0)), (1, .ref (ad 9 0)), (2, .ref (ad 10 0)), (3, .ref (ad 11 0)), (4, .ref (ad 12 0)), (5, .ref (ad 13 0)), (6, .int (nI wy)), (7, .int (nI z))] := hl
  have hm14 := hJ.m14
  have hd58 := hJ.d58
  refine lv_iload hx hb dL_acts_0 (lv_at hl 6 rfl) ?_
  refine lv_iconst (v := nI 5) hx hb dL_acts_2 (by decide) ?_
  refine k_icmp_ge (tgt := 97) hx hb (a := wy) (b := 5) (by omega) (by decide) dL_acts_3 (by decide) (fun h_3 => absurd h_3 (by omega)) (fun h_3 => ?_)
  refine lv_iload hx hb dL_acts_6 (lv_at hl 7 rfl) ?_
  refine lv_iconst (v := nI 4) hx hb dL_acts_8 (by decide) ?_
  refine lv_irem hx hb dL_acts_9 (by decide) ?_
  refine k_toi (pk_rem (by omega) (by decide) (by decide)) ?_
  refine lv_istore (lv' := [(8, .int (nI (z % 4))), (0, .ref (ad 0 0)), (1, .ref (ad 9 0)), (2, .ref (ad 10 0)), (3, .ref (ad 11 0)), (4, .ref (ad 12 0)), (5, .ref (ad 13 0)), (6, .int (nI wy)), (7, .int (nI z))]) hx hb dL_acts_10 hl (by decide) rfl (fun ls hl => ?_)
  refine lv_aload_n hx hb dL_acts_12 rfl (lv_at hl 4 rfl) ?_
  refine lv_iload hx hb dL_acts_13 (lv_at hl 0 rfl) ?_
  refine k_iald hx hb hK hW (kc_11 g ad t) (z % 4) rfl (by omega) (by decide) dL_acts_15 ?_
  refine lv_istore (lv' := [(9, .int (w_c t (z % 4))), (8, .int (nI (z % 4))), (0, .ref (ad 0 0)), (1, .ref (ad 9 0)), (2, .ref (ad 10 0)), (3, .ref (ad 11 0)), (4, .ref (ad 12 0)), (5, .ref (ad 13 0)), (6, .int (nI wy)), (7, .int (nI z))]) hx hb dL_acts_16 hl (by decide) rfl (fun ls hl => ?_)
  refine lv_aload_n hx hb dL_acts_18 rfl (lv_at hl 5 rfl) ?_
  refine lv_iload hx hb dL_acts_19 (lv_at hl 1 rfl) ?_
  refine lv_iload hx hb dL_acts_21 (lv_at hl 9 rfl) ?_
  refine lv_iconst (v := nI 4) hx hb dL_acts_23 (by decide) ?_
  refine lv_idiv hx hb dL_acts_24 (by decide) ?_
  refine k_toi (pk_div (by omega) (by decide) (by decide)) ?_
  refine lv_iconst (v := nI 3) hx hb dL_acts_25 (by decide) ?_
  refine lv_irem hx hb dL_acts_26 (by decide) ?_
  refine k_toi (pk_rem (by omega) (by decide) (by decide)) ?_
  refine k_if_ne (tgt := 35) hx hb (by omega) dL_acts_27 (by decide) (fun h_27 => ?_) (fun h_27 => ?_)
  · refine lv_iload hx hb dL_acts_35 (lv_at hl 9 rfl) ?_
    refine lv_bipush (v := nI 12) hx hb dL_acts_37 (by decide) ?_
    refine lv_idiv hx hb dL_acts_39 (by decide) ?_
    refine k_toi (pk_div (by omega) (by decide) (by decide)) ?_
    refine lv_bipush (v := nI 100) hx hb dL_acts_40 (by decide) ?_
    refine lv_irem hx hb dL_acts_42 (by decide) ?_
    refine k_toi (pk_rem (by omega) (by decide) (by decide)) ?_
    obtain ⟨v9, hv9⟩ : ∃ v9 : Int32, v9 = nI ((z / 12) % 100) := ⟨_, rfl⟩
    refine k_toi hv9.symm ?_
    obtain ⟨nv, hnv, hvn⟩ : ∃ nv, nv < 100 ∧ v9 = nI nv := ⟨_, Nat.mod_lt _ (by decide), hv9⟩
    refine k_iast hx hb hK hW hS (kc_11 g ad t) (z % 4) rfl (by omega) (by decide) dL_acts_43 (fun H locs hW hS => ?_)
    have hW : k_H g ad (set_w_c t (va_up (w_c t) (z % 4) v9)) H := kt_w_c (t := t) (z % 4) v9 rfl hW
    refine lv_iconst (v := nI 0) hx hb dL_acts_44 (by decide) ?_
    refine lv_istore (lv' := [(10, .int (nI 0)), (9, .int (w_c t (z % 4))), (8, .int (nI (z % 4))), (0, .ref (ad 0 0)), (1, .ref (ad 9 0)), (2, .ref (ad 10 0)), (3, .ref (ad 11 0)), (4, .ref (ad 12 0)), (5, .ref (ad 13 0)), (6, .int (nI wy)), (7, .int (nI z))]) hx hb dL_acts_45 hl (by decide) rfl (fun ls hl => ?_)
    have hloop_47 : ∀ (n : Nat) (k : Nat) (X9 : Nat → Int32), (s_md t < k + n) → (k ≤ s_md t) → (∀ i, i < k → X9 (42 + i) = (fun i => kB (va_up (k_chd (f_lf t) (o_ca t i) (f_n t)) (z % 4) true)) i) → (∀ i, (i < 42 ∨ 42 + k ≤ i) → X9 i = w_x t i) → ∀ (H : Heap) (locs : List Loc), k_H g ad (set_w_x (set_w_c t (va_up (w_c t) (z % 4) v9)) X9) H → va_S (k_A g) s.heap H locs → ∀ (ls : Array Slot), lv_has ls 15 [(0, .ref (ad 0 0)), (1, .ref (ad 9 0)), (2, .ref (ad 10 0)), (3, .ref (ad 11 0)), (4, .ref (ad 12 0)), (5, .ref (ad 13 0)), (6, .int (nI wy)), (7, .int (nI z)), (8, .int (nI (z % 4))), (9, .int (w_c t (z % 4))), (10, .int (nI k))] → W p l e rm_L_acts s m args below meth c H locs 0 0 Q (F0 m 47 ls []) := by
      intro n
      induction n with
      | zero =>
        intro k X9 hfu hk hX1 hX2
        exact absurd hfu (by omega)
      | succ n ih =>
        intro k X9 hfu hk hX1 hX2 H locs hW hS ls hl
        refine lv_iload hx hb dL_acts_47 (lv_at hl 10 rfl) ?_
        refine lv_aload hx hb dL_acts_49 (lv_at hl 4 rfl) ?_
        refine lv_iconst (v := nI 0) hx hb dL_acts_51 (by decide) ?_
        refine k_iald hx hb hK hW (kc_12 g ad (set_w_x (set_w_c t (va_up (w_c t) (z % 4) v9)) X9)) 0 rfl (by omega) (by decide) dL_acts_52 ?_
        refine k_toi (y := nI (s_md t)) hJ.wm0 ?_
        refine k_icmp_ge (tgt := 76) hx hb (a := k) (b := s_md t) (by omega) (by omega) dL_acts_53 (by decide) (fun h_53 => ?_) (fun h_53 => ?_)
        · refine lv_aload_n hx hb dL_acts_76 rfl (lv_at hl 0 rfl) ?_
          refine lv_iload hx hb dL_acts_77 (lv_at hl 8 rfl) ?_
          refine lv_aload_n hx hb dL_acts_79 rfl (lv_at hl 3 rfl) ?_
          refine lv_iload hx hb dL_acts_80 (lv_at hl 8 rfl) ?_
          refine k_iald hx hb hK hW (kc_11 g ad (set_w_x (set_w_c t (va_up (w_c t) (z % 4) v9)) X9)) (z % 4) rfl (by omega) (by decide) dL_acts_82 ?_
          refine k_tov (y := .int ((va_up (w_c t) (z % 4) v9) (z % 4))) rfl ?_
          refine k_toi (y := v9) (va_up_self _ _ _) ?_
          refine k_ci (va_runV (As := [.int (nI (z % 4)), .int v9]) (rest := []) ⟨hx, hb, hml, hown, hts⟩ (c_X4_change_ok l hlt g ad (set_w_x (set_w_c t (va_up (w_c t) (z % 4) v9)) X9) (z % 4) v9 (by omega) (by rw [hvn]; exact nI_nlt (Nat.zero_le _) (by omega)) (by rw [hvn]; exact Int32.not_lt.mp (nI_nlt (by omega) (by omega))) (Nat.lt_of_le_of_lt hJ.fn (Nat.lt_of_le_of_lt he (by decide)))) (cwV 2 hts gL_acts_X4_change rfl rfl rfl (by decide +kernel) ⟨(Nat.le_of_ble_eq_true rfl), (Nat.le_of_ble_eq_true rfl)⟩) ⟨k_blind, k_recv hK hW (kc_0 g ad (set_w_x (set_w_c t (va_up (w_c t) (z % 4) v9)) X9)) rfl, fun U hU hw => ⟨rfl, k_I.of hK hZ hN hS hW hU hw⟩⟩ rfl rfl hl.1 rfl (lv_room (Nat.le_of_ble_eq_true rfl)) dL_acts_83 ⟨(Nat.le_of_ble_eq_true rfl), (Nat.le_of_ble_eq_true rfl)⟩) hS (fun r u H locs hpo hW hS => ?_)
          obtain ⟨hr9, hu9⟩ := hpo; replace hu9 := hu9.symm; subst hu9; replace hr9 := hr9.symm; subst hr9
          have hW : k_H g ad (set_f_n (set_f_lt (set_f_lf (set_f_c (set_w_x (set_w_c t (va_up (w_c t) (z % 4) v9)) X9) (va_up (f_c t) (z % 4) v9)) (va_up (f_lf t) (f_n t) (z % 4))) (va_up (f_lt t) (f_n t) v9)) (f_n t + 1)) H := hW
          refine k_toi (y := w_c t (z % 4)) (hJ.fc4 _ (by omega)) ?_
          refine lv_iload hx hb dL_acts_86 (lv_at hl 9 rfl) ?_
          refine lv_icmp_ne (tgt := 95) hx hb dL_acts_88 (by decide) (fun h_88 => absurd rfl h_88) (fun h_88 => ?_)
          refine lv_iconst (v := nI 1) hx hb dL_acts_91 (by decide) ?_
          refine lv_goto (tgt := 96) hx hb dL_acts_92 (by decide) ?_
          exact k_rzA hQ hx hb hr rfl hlk hS hW ⟨rfl, hJ.change (by omega) ⟨nv, hnv, hvn⟩ (fun i hi => hX1 i (Nat.lt_of_lt_of_le hi h_53)) (fun i hi => hX2 i (Or.inl hi)), (fun _ _ _ _ => rfl)⟩ (Nat.le_of_ble_eq_true rfl) (Nat.le_of_ble_eq_true rfl) dL_acts_96
        · refine lv_aload_n hx hb dL_acts_56 rfl (lv_at hl 1 rfl) ?_
          refine lv_bipush (v := nI 42) hx hb dL_acts_57 (by decide) ?_
          refine lv_iload hx hb dL_acts_59 (lv_at hl 10 rfl) ?_
          refine k_iadd hx hb dL_acts_61 ?_
          refine lv_dup2_11 hx hb dL_acts_62 rfl rfl ?_
          refine k_iald hx hb hK hW (kc_9 g ad (set_w_x (set_w_c t (va_up (w_c t) (z % 4) v9)) X9)) (42 + k) rfl (by omega) (by decide) dL_acts_63 ?_
          refine k_tov (y := .int (X9 (42 + k))) rfl ?_
          refine k_toi (y := kB (k_chd (f_lf t) (o_ca t k) (f_n t))) ((hX2 _ (Or.inr (Nat.le_refl _))).trans (hJ.wx3 k h_53)) ?_
          refine lv_iconst (v := nI 1) hx hb dL_acts_64 (by decide) ?_
          refine lv_iload hx hb dL_acts_65 (lv_at hl 8 rfl) ?_
          refine lv_ishl hx hb dL_acts_67 ?_
          refine lv_ior hx hb dL_acts_68 ?_
          refine k_toi (y := kB (va_up (k_chd (f_lf t) (o_ca t k) (f_n t)) (z % 4) true)) (kB_set (k_chd (f_lf t) (o_ca t k) (f_n t)) (by omega)) ?_
          refine k_iast hx hb hK hW hS (kc_9 g ad (set_w_x (set_w_c t (va_up (w_c t) (z % 4) v9)) X9)) (42 + k) rfl (by omega) (by decide) dL_acts_69 (fun H locs hW hS => ?_)
          have hW : k_H g ad (set_w_x (set_w_c t (va_up (w_c t) (z % 4) v9)) (va_up X9 (42 + k) (kB (va_up (k_chd (f_lf t) (o_ca t k) (f_n t)) (z % 4) true)))) H := kt_w_x (t := set_w_x (set_w_c t (va_up (w_c t) (z % 4) v9)) X9) (42 + k) (kB (va_up (k_chd (f_lf t) (o_ca t k) (f_n t)) (z % 4) true)) rfl hW
          refine lv_iinc (v := nI (k + 1)) (lv' := [(10, .int (nI (k + 1))), (0, .ref (ad 0 0)), (1, .ref (ad 9 0)), (2, .ref (ad 10 0)), (3, .ref (ad 11 0)), (4, .ref (ad 12 0)), (5, .ref (ad 13 0)), (6, .int (nI wy)), (7, .int (nI z)), (8, .int (nI (z % 4))), (9, .int (w_c t (z % 4)))]) hx hb dL_acts_70 hl (k := 10) rfl (nI_add _ _) (by decide) rfl (fun ls hl => ?_)
          refine lv_goto (tgt := 47) hx hb dL_acts_73 (by decide) ?_
          exact ih (k + 1) (va_up X9 (42 + k) (kB (va_up (k_chd (f_lf t) (o_ca t k) (f_n t)) (z % 4) true))) (by omega) (by omega) (q_mx1 hX1 rfl) (q_mx2 hX2) _ _ hW hS _ (lv_sub hl [1, 2, 3, 4, 5, 6, 7, 8, 9, 10, 0] rfl)
    have hW : k_H g ad (set_w_x (set_w_c t (va_up (w_c t) (z % 4) v9)) (w_x t)) H := hW
    exact hloop_47 (s_md t + 1) 0 (w_x t) (by omega) (by omega) (fun i hi => absurd hi (Nat.not_lt_zero _)) (fun i _ => rfl) _ _ hW hS _ (lv_sub hl [3, 4, 5, 6, 7, 8, 9, 10, 2, 1, 0] rfl)
  · refine lv_iload hx hb dL_acts_30 (lv_at hl 0 rfl) ?_
    refine lv_goto (tgt := 43) hx hb dL_acts_32 (by decide) ?_
    obtain ⟨v9, hv9⟩ : ∃ v9 : Int32, v9 = w_c t (z % 4) := ⟨_, rfl⟩
    refine k_toi hv9.symm ?_
    obtain ⟨nv, hnv, hvn⟩ : ∃ nv, nv < 100 ∧ v9 = nI nv := by rw [hv9]; exact hJ.c99 (z % 4) (by omega)
    refine k_iast hx hb hK hW hS (kc_11 g ad t) (z % 4) rfl (by omega) (by decide) dL_acts_43 (fun H locs hW hS => ?_)
    have hW : k_H g ad (set_w_c t (va_up (w_c t) (z % 4) v9)) H := kt_w_c (t := t) (z % 4) v9 rfl hW
    refine lv_iconst (v := nI 0) hx hb dL_acts_44 (by decide) ?_
    refine lv_istore (lv' := [(10, .int (nI 0)), (9, .int (w_c t (z % 4))), (8, .int (nI (z % 4))), (0, .ref (ad 0 0)), (1, .ref (ad 9 0)), (2, .ref (ad 10 0)), (3, .ref (ad 11 0)), (4, .ref (ad 12 0)), (5, .ref (ad 13 0)), (6, .int (nI wy)), (7, .int (nI z))]) hx hb dL_acts_45 hl (by decide) rfl (fun ls hl => ?_)
    have hloop_47 : ∀ (n : Nat) (k : Nat) (X9 : Nat → Int32), (s_md t < k + n) → (k ≤ s_md t) → (∀ i, i < k → X9 (42 + i) = (fun i => kB (va_up (k_chd (f_lf t) (o_ca t i) (f_n t)) (z % 4) true)) i) → (∀ i, (i < 42 ∨ 42 + k ≤ i) → X9 i = w_x t i) → ∀ (H : Heap) (locs : List Loc), k_H g ad (set_w_x (set_w_c t (va_up (w_c t) (z % 4) v9)) X9) H → va_S (k_A g) s.heap H locs → ∀ (ls : Array Slot), lv_has ls 15 [(0, .ref (ad 0 0)), (1, .ref (ad 9 0)), (2, .ref (ad 10 0)), (3, .ref (ad 11 0)), (4, .ref (ad 12 0)), (5, .ref (ad 13 0)), (6, .int (nI wy)), (7, .int (nI z)), (8, .int (nI (z % 4))), (9, .int (w_c t (z % 4))), (10, .int (nI k))] → W p l e rm_L_acts s m args below meth c H locs 0 0 Q (F0 m 47 ls []) := by
      intro n
      induction n with
      | zero =>
        intro k X9 hfu hk hX1 hX2
        exact absurd hfu (by omega)
      | succ n ih =>
        intro k X9 hfu hk hX1 hX2 H locs hW hS ls hl
        refine lv_iload hx hb dL_acts_47 (lv_at hl 10 rfl) ?_
        refine lv_aload hx hb dL_acts_49 (lv_at hl 4 rfl) ?_
        refine lv_iconst (v := nI 0) hx hb dL_acts_51 (by decide) ?_
        refine k_iald hx hb hK hW (kc_12 g ad (set_w_x (set_w_c t (va_up (w_c t) (z % 4) v9)) X9)) 0 rfl (by omega) (by decide) dL_acts_52 ?_
        refine k_toi (y := nI (s_md t)) hJ.wm0 ?_
        refine k_icmp_ge (tgt := 76) hx hb (a := k) (b := s_md t) (by omega) (by omega) dL_acts_53 (by decide) (fun h_53 => ?_) (fun h_53 => ?_)
        · refine lv_aload_n hx hb dL_acts_76 rfl (lv_at hl 0 rfl) ?_
          refine lv_iload hx hb dL_acts_77 (lv_at hl 8 rfl) ?_
          refine lv_aload_n hx hb dL_acts_79 rfl (lv_at hl 3 rfl) ?_
          refine lv_iload hx hb dL_acts_80 (lv_at hl 8 rfl) ?_
          refine k_iald hx hb hK hW (kc_11 g ad (set_w_x (set_w_c t (va_up (w_c t) (z % 4) v9)) X9)) (z % 4) rfl (by omega) (by decide) dL_acts_82 ?_
          refine k_tov (y := .int ((va_up (w_c t) (z % 4) v9) (z % 4))) rfl ?_
          refine k_toi (y := v9) (va_up_self _ _ _) ?_
          refine k_ci (va_runV (As := [.int (nI (z % 4)), .int v9]) (rest := []) ⟨hx, hb, hml, hown, hts⟩ (c_X4_change_ok l hlt g ad (set_w_x (set_w_c t (va_up (w_c t) (z % 4) v9)) X9) (z % 4) v9 (by omega) (by rw [hvn]; exact nI_nlt (Nat.zero_le _) (by omega)) (by rw [hvn]; exact Int32.not_lt.mp (nI_nlt (by omega) (by omega))) (Nat.lt_of_le_of_lt hJ.fn (Nat.lt_of_le_of_lt he (by decide)))) (cwV 2 hts gL_acts_X4_change rfl rfl rfl (by decide +kernel) ⟨(Nat.le_of_ble_eq_true rfl), (Nat.le_of_ble_eq_true rfl)⟩) ⟨k_blind, k_recv hK hW (kc_0 g ad (set_w_x (set_w_c t (va_up (w_c t) (z % 4) v9)) X9)) rfl, fun U hU hw => ⟨rfl, k_I.of hK hZ hN hS hW hU hw⟩⟩ rfl rfl hl.1 rfl (lv_room (Nat.le_of_ble_eq_true rfl)) dL_acts_83 ⟨(Nat.le_of_ble_eq_true rfl), (Nat.le_of_ble_eq_true rfl)⟩) hS (fun r u H locs hpo hW hS => ?_)
          obtain ⟨hr9, hu9⟩ := hpo; replace hu9 := hu9.symm; subst hu9; replace hr9 := hr9.symm; subst hr9
          have hW : k_H g ad (set_f_n (set_f_lt (set_f_lf (set_f_c (set_w_x (set_w_c t (va_up (w_c t) (z % 4) v9)) X9) (va_up (f_c t) (z % 4) v9)) (va_up (f_lf t) (f_n t) (z % 4))) (va_up (f_lt t) (f_n t) v9)) (f_n t + 1)) H := hW
          refine k_toi (y := w_c t (z % 4)) (hJ.fc4 _ (by omega)) ?_
          refine lv_iload hx hb dL_acts_86 (lv_at hl 9 rfl) ?_
          refine lv_icmp_ne (tgt := 95) hx hb dL_acts_88 (by decide) (fun h_88 => absurd rfl h_88) (fun h_88 => ?_)
          refine lv_iconst (v := nI 1) hx hb dL_acts_91 (by decide) ?_
          refine lv_goto (tgt := 96) hx hb dL_acts_92 (by decide) ?_
          exact k_rzA hQ hx hb hr rfl hlk hS hW ⟨rfl, hJ.change (by omega) ⟨nv, hnv, hvn⟩ (fun i hi => hX1 i (Nat.lt_of_lt_of_le hi h_53)) (fun i hi => hX2 i (Or.inl hi)), (fun _ _ _ _ => rfl)⟩ (Nat.le_of_ble_eq_true rfl) (Nat.le_of_ble_eq_true rfl) dL_acts_96
        · refine lv_aload_n hx hb dL_acts_56 rfl (lv_at hl 1 rfl) ?_
          refine lv_bipush (v := nI 42) hx hb dL_acts_57 (by decide) ?_
          refine lv_iload hx hb dL_acts_59 (lv_at hl 10 rfl) ?_
          refine k_iadd hx hb dL_acts_61 ?_
          refine lv_dup2_11 hx hb dL_acts_62 rfl rfl ?_
          refine k_iald hx hb hK hW (kc_9 g ad (set_w_x (set_w_c t (va_up (w_c t) (z % 4) v9)) X9)) (42 + k) rfl (by omega) (by decide) dL_acts_63 ?_
          refine k_tov (y := .int (X9 (42 + k))) rfl ?_
          refine k_toi (y := kB (k_chd (f_lf t) (o_ca t k) (f_n t))) ((hX2 _ (Or.inr (Nat.le_refl _))).trans (hJ.wx3 k h_53)) ?_
          refine lv_iconst (v := nI 1) hx hb dL_acts_64 (by decide) ?_
          refine lv_iload hx hb dL_acts_65 (lv_at hl 8 rfl) ?_
          refine lv_ishl hx hb dL_acts_67 ?_
          refine lv_ior hx hb dL_acts_68 ?_
          refine k_toi (y := kB (va_up (k_chd (f_lf t) (o_ca t k) (f_n t)) (z % 4) true)) (kB_set (k_chd (f_lf t) (o_ca t k) (f_n t)) (by omega)) ?_
          refine k_iast hx hb hK hW hS (kc_9 g ad (set_w_x (set_w_c t (va_up (w_c t) (z % 4) v9)) X9)) (42 + k) rfl (by omega) (by decide) dL_acts_69 (fun H locs hW hS => ?_)
          have hW : k_H g ad (set_w_x (set_w_c t (va_up (w_c t) (z % 4) v9)) (va_up X9 (42 + k) (kB (va_up (k_chd (f_lf t) (o_ca t k) (f_n t)) (z % 4) true)))) H := kt_w_x (t := set_w_x (set_w_c t (va_up (w_c t) (z % 4) v9)) X9) (42 + k) (kB (va_up (k_chd (f_lf t) (o_ca t k) (f_n t)) (z % 4) true)) rfl hW
          refine lv_iinc (v := nI (k + 1)) (lv' := [(10, .int (nI (k + 1))), (0, .ref (ad 0 0)), (1, .ref (ad 9 0)), (2, .ref (ad 10 0)), (3, .ref (ad 11 0)), (4, .ref (ad 12 0)), (5, .ref (ad 13 0)), (6, .int (nI wy)), (7, .int (nI z)), (8, .int (nI (z % 4))), (9, .int (w_c t (z % 4)))]) hx hb dL_acts_70 hl (k := 10) rfl (nI_add _ _) (by decide) rfl (fun ls hl => ?_)
          refine lv_goto (tgt := 47) hx hb dL_acts_73 (by decide) ?_
          exact ih (k + 1) (va_up X9 (42 + k) (kB (va_up (k_chd (f_lf t) (o_ca t k) (f_n t)) (z % 4) true))) (by omega) (by omega) (q_mx1 hX1 rfl) (q_mx2 hX2) _ _ hW hS _ (lv_sub hl [1, 2, 3, 4, 5, 6, 7, 8, 9, 10, 0] rfl)
    have hW : k_H g ad (set_w_x (set_w_c t (va_up (w_c t) (z % 4) v9)) (w_x t)) H := hW
    exact hloop_47 (s_md t + 1) 0 (w_x t) (by omega) (by omega) (fun i hi => absurd hi (Nat.not_lt_zero _)) (fun i _ => rfl) _ _ hW hS _ (lv_sub hl [3, 4, 5, 6, 7, 8, 9, 10, 2, 1, 0] rfl)
set_option maxRecDepth 100000 in
set_option maxHeartbeats 4000000 in
theorem c_L_acts_pass (l : Launch) (hlt : l.stackTraces = false) (g : k_g) (ad : k_AD) (t : k_T) (e9 : Nat) (wy : Nat) (z : Nat) (hJ : q_J e9 t) (he : e9 ≤ 190) (hw1 : 5 ≤ wy) (hw2 : wy < 8) (hzz : z < 10000000) : Met l yL_acts wsL_acts rm_L_acts (va_Pc [.ref (ad 0 0), .ref (ad 9 0), .ref (ad 10 0), .ref (ad 11 0), .ref (ad 12 0), .ref (ad 13 0), .int (nI wy), .int (nI z)] (k_I g (k_ct g ad t) ad)) (va_Qi (S := k_T × k_AD) (fun r u => r = nI 1 ∧ q_J (e9 + 1) u.1 ∧ ∀ a b, a ≠ 25 → a ≠ 26 → u.2 a b = ad a b) (fun u U => k_H g u.2 u.1 U.heap) (k_A g)) 24 171 (k_A g) := by
  refine k_met (cc := cL_acts) (maxL := 15) (ret := (some .boolean)) (by decide) rfl (Nat.le_of_ble_eq_true rfl) (fun p e s m args below meth c Q ls hQ hx hb hr hml hts hown hlk hin hK hZ hN hW hS hl => ?_)
  have hown : s.vm.findClass RL = some m.cls := hown
  have hW : k_H g ad t s.heap := hW
  have hl : lv_has ls 15 [(0, .ref (ad 0 0)), (1, .ref (ad 9 0)), (2, .ref (ad 10 0)), (3, .ref (ad 11 0)), (4, .ref (ad 12 0)), (5, .ref (ad 13 0)), (6, .int (nI wy)), (7, .int (nI z))] := hl
  have hm14 := hJ.m14
  have hd58 := hJ.d58
  refine lv_iload hx hb dL_acts_0 (lv_at hl 6 rfl) ?_
  refine lv_iconst (v := nI 5) hx hb dL_acts_2 (by decide) ?_
  refine k_icmp_ge (tgt := 97) hx hb (a := wy) (b := 5) (by omega) (by decide) dL_acts_3 (by decide) (fun h_3 => ?_) (fun h_3 => absurd h_3 (by omega))
  refine lv_iload hx hb dL_acts_97 (lv_at hl 6 rfl) ?_
  refine lv_bipush (v := nI 8) hx hb dL_acts_99 (by decide) ?_
  refine k_icmp_ge (tgt := 181) hx hb (a := wy) (b := 8) (by omega) (by decide) dL_acts_101 (by decide) (fun h_101 => absurd h_101 (by omega)) (fun h_101 => ?_)
  refine lv_aload hx hb dL_acts_104 (lv_at hl 4 rfl) ?_
  refine lv_iconst (v := nI 1) hx hb dL_acts_106 (by decide) ?_
  refine k_iald hx hb hK hW (kc_12 g ad t) 1 rfl (by omega) (by decide) dL_acts_107 ?_
  refine k_toi (y := nI (x_d t)) hJ.wm1 ?_
  refine lv_bipush (v := nI 49) hx hb dL_acts_108 (by decide) ?_
  refine k_icmp_le (tgt := 115) hx hb (a := x_d t) (b := 49) (by omega) (by decide) dL_acts_110 (by decide) (fun h_110 => ?_) (fun h_110 => ?_)
  · refine lv_aload hx hb dL_acts_115 (lv_at hl 4 rfl) ?_
    refine lv_iconst (v := nI 1) hx hb dL_acts_117 (by decide) ?_
    refine lv_dup2_11 hx hb dL_acts_118 rfl rfl ?_
    refine k_iald hx hb hK hW (kc_12 g ad t) 1 rfl (by omega) (by decide) dL_acts_119 ?_
    refine k_toi (y := nI (x_d t)) hJ.wm1 ?_
    refine lv_iconst (v := nI 1) hx hb dL_acts_120 (by decide) ?_
    refine lv_iload hx hb dL_acts_121 (lv_at hl 7 rfl) ?_
    refine lv_iload hx hb dL_acts_123 (lv_at hl 7 rfl) ?_
    refine lv_bipush (v := nI 7) hx hb dL_acts_125 (by decide) ?_
    refine lv_irem hx hb dL_acts_127 (by decide) ?_
    refine k_toi (pk_rem (by omega) (by decide) (by decide)) ?_
    refine k_if_ne (tgt := 136) hx hb (by omega) dL_acts_128 (by decide) (fun h_128 => ?_) (fun h_128 => ?_)
    · refine lv_iconst (v := nI 2) hx hb dL_acts_136 (by decide) ?_
      refine lv_irem hx hb dL_acts_137 (by decide) ?_
      refine k_toi (pk_rem (by omega) (by decide) (by decide)) ?_
      refine k_iadd hx hb dL_acts_138 ?_
      refine k_iadd hx hb dL_acts_139 ?_
      refine k_iast hx hb hK hW hS (kc_12 g ad t) 1 rfl (by omega) (by decide) dL_acts_140 (fun H locs hW hS => ?_)
      have hW : k_H g ad (set_w_m t (va_up (w_m t) 1 (nI ((x_d t) + (1 + (z % 2)))))) H := kt_w_m (t := t) 1 (nI ((x_d t) + (1 + (z % 2)))) rfl hW
      refine lv_iconst (v := nI 1) hx hb dL_acts_141 (by decide) ?_
      refine lv_iload hx hb dL_acts_142 (lv_at hl 7 rfl) ?_
      refine lv_iload hx hb dL_acts_144 (lv_at hl 7 rfl) ?_
      refine lv_bipush (v := nI 7) hx hb dL_acts_146 (by decide) ?_
      refine lv_irem hx hb dL_acts_148 (by decide) ?_
      refine k_toi (pk_rem (by omega) (by decide) (by decide)) ?_
      refine k_if_ne (tgt := 157) hx hb (by omega) dL_acts_149 (by decide) (fun h_149 => ?_) (fun h_149 => absurd h_149 (by omega))
      refine lv_iconst (v := nI 2) hx hb dL_acts_157 (by decide) ?_
      refine lv_irem hx hb dL_acts_158 (by decide) ?_
      refine k_toi (pk_rem (by omega) (by decide) (by decide)) ?_
      refine k_iadd hx hb dL_acts_159 ?_
      refine lv_istore (lv' := [(8, .int (nI (1 + (z % 2)))), (0, .ref (ad 0 0)), (1, .ref (ad 9 0)), (2, .ref (ad 10 0)), (3, .ref (ad 11 0)), (4, .ref (ad 12 0)), (5, .ref (ad 13 0)), (6, .int (nI wy)), (7, .int (nI z))]) hx hb dL_acts_160 hl (by decide) rfl (fun ls hl => ?_)
      refine lv_aload_n hx hb dL_acts_162 rfl (lv_at hl 1 rfl) ?_
      refine lv_iload hx hb dL_acts_163 (lv_at hl 0 rfl) ?_
      refine k_ci (va_runV (As := [.int (nI (1 + (z % 2)))]) (rest := []) ⟨hx, hb, hml, hown, hts⟩ (c_X4_pass_ok l hlt g ad (set_w_m t (va_up (w_m t) 1 (nI ((x_d t) + (1 + (z % 2)))))) (1 + (z % 2)) hJ.hd (by omega) (by omega) (show x_d t + _ ≤ 360 from by omega)) (cwV 1 hts gL_acts_X4_pass rfl rfl rfl (by decide +kernel) ⟨(Nat.le_of_ble_eq_true rfl), (Nat.le_of_ble_eq_true rfl)⟩) ⟨k_blind, k_recv hK hW (kc_0 g ad (set_w_m t (va_up (w_m t) 1 (nI ((x_d t) + (1 + (z % 2))))))) rfl, fun U hU hw => ⟨rfl, k_I.of hK hZ hN hS hW hU hw⟩⟩ rfl rfl hl.1 rfl (lv_room (Nat.le_of_ble_eq_true rfl)) dL_acts_165 ⟨(Nat.le_of_ble_eq_true rfl), (Nat.le_of_ble_eq_true rfl)⟩) hS (fun r u H locs hpo hW hS => ?_)
      obtain ⟨hr9, hu9⟩ := hpo; replace hu9 := hu9.symm; subst hu9; replace hr9 := hr9.symm; subst hr9
      have hW : k_H g ad (set_x_d (set_w_m t (va_up (w_m t) 1 (nI ((x_d t) + (1 + (z % 2)))))) (x_d t + (1 + (z % 2)))) H := hW
      refine lv_aload hx hb dL_acts_168 (lv_at hl 5 rfl) ?_
      refine lv_iconst (v := nI 1) hx hb dL_acts_170 (by decide) ?_
      refine k_iald hx hb hK hW (kc_12 g ad (set_x_d (set_w_m t (va_up (w_m t) 1 (nI ((x_d t) + (1 + (z % 2)))))) (x_d t + (1 + (z % 2))))) 1 rfl (by omega) (by decide) dL_acts_171 ?_
      refine k_tov (y := .int ((va_up (w_m t) 1 (nI ((x_d t) + (1 + (z % 2))))) 1)) rfl ?_
      refine k_toi (y := nI (x_d t + (1 + (z % 2)))) (va_up_self _ _ _) ?_
      refine lv_icmp_ne (tgt := 179) hx hb dL_acts_172 (by decide) (fun h_172 => absurd rfl h_172) (fun h_172 => ?_)
      refine lv_iconst (v := nI 1) hx hb dL_acts_175 (by decide) ?_
      refine lv_goto (tgt := 180) hx hb dL_acts_176 (by decide) ?_
      exact k_rzA hQ hx hb hr rfl hlk hS hW ⟨rfl, (hJ.pass (by omega) rfl).mono (Nat.le_succ _), (fun _ _ _ _ => rfl)⟩ (Nat.le_of_ble_eq_true rfl) (Nat.le_of_ble_eq_true rfl) dL_acts_180
    · refine lv_bipush (v := nI 9) hx hb dL_acts_131 (by decide) ?_
      refine lv_goto (tgt := 137) hx hb dL_acts_133 (by decide) ?_
      refine lv_irem hx hb dL_acts_137 (by decide) ?_
      refine k_toi (pk_rem (by omega) (by decide) (by decide)) ?_
      refine k_iadd hx hb dL_acts_138 ?_
      refine k_iadd hx hb dL_acts_139 ?_
      refine k_iast hx hb hK hW hS (kc_12 g ad t) 1 rfl (by omega) (by decide) dL_acts_140 (fun H locs hW hS => ?_)
      have hW : k_H g ad (set_w_m t (va_up (w_m t) 1 (nI ((x_d t) + (1 + (z % 9)))))) H := kt_w_m (t := t) 1 (nI ((x_d t) + (1 + (z % 9)))) rfl hW
      refine lv_iconst (v := nI 1) hx hb dL_acts_141 (by decide) ?_
      refine lv_iload hx hb dL_acts_142 (lv_at hl 7 rfl) ?_
      refine lv_iload hx hb dL_acts_144 (lv_at hl 7 rfl) ?_
      refine lv_bipush (v := nI 7) hx hb dL_acts_146 (by decide) ?_
      refine lv_irem hx hb dL_acts_148 (by decide) ?_
      refine k_toi (pk_rem (by omega) (by decide) (by decide)) ?_
      refine k_if_ne (tgt := 157) hx hb (by omega) dL_acts_149 (by decide) (fun h_149 => absurd h_149 (by omega)) (fun h_149 => ?_)
      refine lv_bipush (v := nI 9) hx hb dL_acts_152 (by decide) ?_
      refine lv_goto (tgt := 158) hx hb dL_acts_154 (by decide) ?_
      refine lv_irem hx hb dL_acts_158 (by decide) ?_
      refine k_toi (pk_rem (by omega) (by decide) (by decide)) ?_
      refine k_iadd hx hb dL_acts_159 ?_
      refine lv_istore (lv' := [(8, .int (nI (1 + (z % 9)))), (0, .ref (ad 0 0)), (1, .ref (ad 9 0)), (2, .ref (ad 10 0)), (3, .ref (ad 11 0)), (4, .ref (ad 12 0)), (5, .ref (ad 13 0)), (6, .int (nI wy)), (7, .int (nI z))]) hx hb dL_acts_160 hl (by decide) rfl (fun ls hl => ?_)
      refine lv_aload_n hx hb dL_acts_162 rfl (lv_at hl 1 rfl) ?_
      refine lv_iload hx hb dL_acts_163 (lv_at hl 0 rfl) ?_
      refine k_ci (va_runV (As := [.int (nI (1 + (z % 9)))]) (rest := []) ⟨hx, hb, hml, hown, hts⟩ (c_X4_pass_ok l hlt g ad (set_w_m t (va_up (w_m t) 1 (nI ((x_d t) + (1 + (z % 9)))))) (1 + (z % 9)) hJ.hd (by omega) (by omega) (show x_d t + _ ≤ 360 from by omega)) (cwV 1 hts gL_acts_X4_pass rfl rfl rfl (by decide +kernel) ⟨(Nat.le_of_ble_eq_true rfl), (Nat.le_of_ble_eq_true rfl)⟩) ⟨k_blind, k_recv hK hW (kc_0 g ad (set_w_m t (va_up (w_m t) 1 (nI ((x_d t) + (1 + (z % 9))))))) rfl, fun U hU hw => ⟨rfl, k_I.of hK hZ hN hS hW hU hw⟩⟩ rfl rfl hl.1 rfl (lv_room (Nat.le_of_ble_eq_true rfl)) dL_acts_165 ⟨(Nat.le_of_ble_eq_true rfl), (Nat.le_of_ble_eq_true rfl)⟩) hS (fun r u H locs hpo hW hS => ?_)
      obtain ⟨hr9, hu9⟩ := hpo; replace hu9 := hu9.symm; subst hu9; replace hr9 := hr9.symm; subst hr9
      have hW : k_H g ad (set_x_d (set_w_m t (va_up (w_m t) 1 (nI ((x_d t) + (1 + (z % 9)))))) (x_d t + (1 + (z % 9)))) H := hW
      refine lv_aload hx hb dL_acts_168 (lv_at hl 5 rfl) ?_
      refine lv_iconst (v := nI 1) hx hb dL_acts_170 (by decide) ?_
      refine k_iald hx hb hK hW (kc_12 g ad (set_x_d (set_w_m t (va_up (w_m t) 1 (nI ((x_d t) + (1 + (z % 9)))))) (x_d t + (1 + (z % 9))))) 1 rfl (by omega) (by decide) dL_acts_171 ?_
      refine k_tov (y := .int ((va_up (w_m t) 1 (nI ((x_d t) + (1 + (z % 9))))) 1)) rfl ?_
      refine k_toi (y := nI (x_d t + (1 + (z % 9)))) (va_up_self _ _ _) ?_
      refine lv_icmp_ne (tgt := 179) hx hb dL_acts_172 (by decide) (fun h_172 => absurd rfl h_172) (fun h_172 => ?_)
      refine lv_iconst (v := nI 1) hx hb dL_acts_175 (by decide) ?_
      refine lv_goto (tgt := 180) hx hb dL_acts_176 (by decide) ?_
      exact k_rzA hQ hx hb hr rfl hlk hS hW ⟨rfl, (hJ.pass (by omega) rfl).mono (Nat.le_succ _), (fun _ _ _ _ => rfl)⟩ (Nat.le_of_ble_eq_true rfl) (Nat.le_of_ble_eq_true rfl) dL_acts_180
  · refine lv_iconst (v := nI 1) hx hb dL_acts_113 (by decide) ?_
    exact k_rzA hQ hx hb hr rfl hlk hS hW ⟨rfl, hJ.mono (Nat.le_succ _), (fun _ _ _ _ => rfl)⟩ (Nat.le_of_ble_eq_true rfl) (Nat.le_of_ble_eq_true rfl) dL_acts_114
set_option maxRecDepth 100000 in
set_option maxHeartbeats 4000000 in
theorem c_L_acts_copyfull (l : Launch) (hlt : l.stackTraces = false) (g : k_g) (ad : k_AD) (t : k_T) (e9 : Nat) (wy : Nat) (z : Nat) (hJ : q_J e9 t) (he : e9 ≤ 190) (hw1 : 8 ≤ wy) (hw2 : wy < 12) (hzz : z < 10000000) (hm : s_md t < 14) (hz4 : z % 4 = 0) : Met l yL_acts wsL_acts rm_L_acts (va_Pc [.ref (ad 0 0), .ref (ad 9 0), .ref (ad 10 0), .ref (ad 11 0), .ref (ad 12 0), .ref (ad 13 0), .int (nI wy), .int (nI z)] (k_I g (k_ct g ad t) ad)) (va_Qi (S := k_T × k_AD) (fun r u => r = nI 1 ∧ q_J (e9 + 1) u.1 ∧ ∀ a b, a ≠ 25 → a ≠ 26 → u.2 a b = ad a b) (fun u U => k_H g u.2 u.1 U.heap) (k_A g)) 24 171 (k_A g) := by
  refine k_met (cc := cL_acts) (maxL := 15) (ret := (some .boolean)) (by decide) rfl (Nat.le_of_ble_eq_true rfl) (fun p e s m args below meth c Q ls hQ hx hb hr hml hts hown hlk hin hK hZ hN hW hS hl => ?_)
  have hown : s.vm.findClass RL = some m.cls := hown
  have hW : k_H g ad t s.heap := hW
  have hl : lv_has ls 15 [(0, .ref (ad 0 0)), (1, .ref (ad 9 0)), (2, .ref (ad 10 0)), (3, .ref (ad 11 0)), (4, .ref (ad 12 0)), (5, .ref (ad 13 0)), (6, .int (nI wy)), (7, .int (nI z))] := hl
  have hm14 := hJ.m14
  have hd58 := hJ.d58
  refine lv_iload hx hb dL_acts_0 (lv_at hl 6 rfl) ?_
  refine lv_iconst (v := nI 5) hx hb dL_acts_2 (by decide) ?_
  refine k_icmp_ge (tgt := 97) hx hb (a := wy) (b := 5) (by omega) (by decide) dL_acts_3 (by decide) (fun h_3 => ?_) (fun h_3 => absurd h_3 (by omega))
  refine lv_iload hx hb dL_acts_97 (lv_at hl 6 rfl) ?_
  refine lv_bipush (v := nI 8) hx hb dL_acts_99 (by decide) ?_
  refine k_icmp_ge (tgt := 181) hx hb (a := wy) (b := 8) (by omega) (by decide) dL_acts_101 (by decide) (fun h_101 => ?_) (fun h_101 => absurd h_101 (by omega))
  refine lv_iload hx hb dL_acts_181 (lv_at hl 6 rfl) ?_
  refine lv_bipush (v := nI 12) hx hb dL_acts_183 (by decide) ?_
  refine k_icmp_ge (tgt := 227) hx hb (a := wy) (b := 12) (by omega) (by decide) dL_acts_185 (by decide) (fun h_185 => absurd h_185 (by omega)) (fun h_185 => ?_)
  refine lv_aload hx hb dL_acts_188 (lv_at hl 4 rfl) ?_
  refine lv_iconst (v := nI 0) hx hb dL_acts_190 (by decide) ?_
  refine k_iald hx hb hK hW (kc_12 g ad t) 0 rfl (by omega) (by decide) dL_acts_191 ?_
  refine k_toi (y := nI (s_md t)) hJ.wm0 ?_
  refine lv_bipush (v := nI 14) hx hb dL_acts_192 (by decide) ?_
  refine k_icmp_eq (tgt := 221) hx hb (a := s_md t) (b := 14) (by omega) (by decide) dL_acts_194 (by decide) (fun h_194 => absurd h_194 (by omega)) (fun h_194 => ?_)
  refine lv_aload_n hx hb dL_acts_197 rfl (lv_at hl 0 rfl) ?_
  refine lv_aload_n hx hb dL_acts_198 rfl (lv_at hl 1 rfl) ?_
  refine lv_aload_n hx hb dL_acts_199 rfl (lv_at hl 2 rfl) ?_
  refine lv_aload_n hx hb dL_acts_200 rfl (lv_at hl 3 rfl) ?_
  refine lv_aload hx hb dL_acts_201 (lv_at hl 4 rfl) ?_
  refine lv_iload hx hb dL_acts_203 (lv_at hl 7 rfl) ?_
  refine lv_iconst (v := nI 4) hx hb dL_acts_205 (by decide) ?_
  refine lv_irem hx hb dL_acts_206 (by decide) ?_
  refine k_toi (pk_rem (by omega) (by decide) (by decide)) ?_
  refine k_if_ne (tgt := 214) hx hb (by omega) dL_acts_207 (by decide) (fun h_207 => absurd h_207 (by omega)) (fun h_207 => ?_)
  refine lv_iconst (v := nI 1) hx hb dL_acts_210 (by decide) ?_
  refine lv_goto (tgt := 215) hx hb dL_acts_211 (by decide) ?_
  refine k_ciA (va_runS (As := [.ref (ad 0 0), .ref (ad 9 0), .ref (ad 10 0), .ref (ad 11 0), .ref (ad 12 0), .int (nI 1)]) (rest := []) ⟨hx, hb, hml, hown, hts⟩ (c_L_isCopied_full l hlt g ad t e9 hJ (by omega) hm) (va_cwS 6 hts gL_acts_L_isCopied rfl rfl rfl (by decide +kernel) ⟨(Nat.le_of_ble_eq_true rfl), (Nat.le_of_ble_eq_true rfl)⟩) ⟨k_blind, fun U hU hw => ⟨rfl, k_I.of hK hZ hN hS hW hU hw⟩⟩ rfl rfl hl.1 rfl (lv_room (Nat.le_of_ble_eq_true rfl)) dL_acts_215 ⟨(Nat.le_of_ble_eq_true rfl), (Nat.le_of_ble_eq_true rfl)⟩) hS (fun r u H locs hpo hW hS => ?_)
  obtain ⟨u1, ad⟩ := u
  obtain ⟨hr9, hJ1, hadp⟩ := hpo
  replace hr9 := hr9.symm; subst hr9
  have hW : k_H g ad u1 H := hW
  refine lv_if_eq (tgt := 225) hx hb dL_acts_218 (by decide) (fun h_218 => absurd h_218 (by decide)) (fun h_218 => ?_)
  refine lv_iconst (v := nI 1) hx hb dL_acts_221 (by decide) ?_
  refine lv_goto (tgt := 226) hx hb dL_acts_222 (by decide) ?_
  exact k_rzA hQ hx hb hr rfl hlk hS hW ⟨rfl, hJ1.mono (Nat.le_succ _), fun a b h1 h2 => hadp a b (fun q => h1 q.1) (fun q => h2 q.1)⟩ (Nat.le_of_ble_eq_true rfl) (Nat.le_of_ble_eq_true rfl) dL_acts_226
set_option maxRecDepth 100000 in
set_option maxHeartbeats 4000000 in
theorem c_L_acts_copysome (l : Launch) (hlt : l.stackTraces = false) (g : k_g) (ad : k_AD) (t : k_T) (e9 : Nat) (wy : Nat) (z : Nat) (b0 : Nat) (hJ : q_J e9 t) (he : e9 ≤ 190) (hw1 : 8 ≤ wy) (hw2 : wy < 12) (hzz : z < 10000000) (hm : s_md t < 14) (hz4 : ¬ z % 4 = 0) (hla : k_la (s_th t) 60 = some b0) : Met l yL_acts wsL_acts rm_L_acts (va_Pc [.ref (ad 0 0), .ref (ad 9 0), .ref (ad 10 0), .ref (ad 11 0), .ref (ad 12 0), .ref (ad 13 0), .int (nI wy), .int (nI z)] (k_I g (k_ct g ad t) ad)) (va_Qi (S := k_T × k_AD) (fun r u => r = nI 1 ∧ q_J (e9 + 1) u.1 ∧ ∀ a b, a ≠ 25 → a ≠ 26 → u.2 a b = ad a b) (fun u U => k_H g u.2 u.1 U.heap) (k_A g)) 24 171 (k_A g) := by
  refine k_met (cc := cL_acts) (maxL := 15) (ret := (some .boolean)) (by decide) rfl (Nat.le_of_ble_eq_true rfl) (fun p e s m args below meth c Q ls hQ hx hb hr hml hts hown hlk hin hK hZ hN hW hS hl => ?_)
  have hown : s.vm.findClass RL = some m.cls := hown
  have hW : k_H g ad t s.heap := hW
  have hl : lv_has ls 15 [(0, .ref (ad 0 0)), (1, .ref (ad 9 0)), (2, .ref (ad 10 0)), (3, .ref (ad 11 0)), (4, .ref (ad 12 0)), (5, .ref (ad 13 0)), (6, .int (nI wy)), (7, .int (nI z))] := hl
  have hm14 := hJ.m14
  have hd58 := hJ.d58
  refine lv_iload hx hb dL_acts_0 (lv_at hl 6 rfl) ?_
  refine lv_iconst (v := nI 5) hx hb dL_acts_2 (by decide) ?_
  refine k_icmp_ge (tgt := 97) hx hb (a := wy) (b := 5) (by omega) (by decide) dL_acts_3 (by decide) (fun h_3 => ?_) (fun h_3 => absurd h_3 (by omega))
  refine lv_iload hx hb dL_acts_97 (lv_at hl 6 rfl) ?_
  refine lv_bipush (v := nI 8) hx hb dL_acts_99 (by decide) ?_
  refine k_icmp_ge (tgt := 181) hx hb (a := wy) (b := 8) (by omega) (by decide) dL_acts_101 (by decide) (fun h_101 => ?_) (fun h_101 => absurd h_101 (by omega))
  refine lv_iload hx hb dL_acts_181 (lv_at hl 6 rfl) ?_
  refine lv_bipush (v := nI 12) hx hb dL_acts_183 (by decide) ?_
  refine k_icmp_ge (tgt := 227) hx hb (a := wy) (b := 12) (by omega) (by decide) dL_acts_185 (by decide) (fun h_185 => absurd h_185 (by omega)) (fun h_185 => ?_)
  refine lv_aload hx hb dL_acts_188 (lv_at hl 4 rfl) ?_
  refine lv_iconst (v := nI 0) hx hb dL_acts_190 (by decide) ?_
  refine k_iald hx hb hK hW (kc_12 g ad t) 0 rfl (by omega) (by decide) dL_acts_191 ?_
  refine k_toi (y := nI (s_md t)) hJ.wm0 ?_
  refine lv_bipush (v := nI 14) hx hb dL_acts_192 (by decide) ?_
  refine k_icmp_eq (tgt := 221) hx hb (a := s_md t) (b := 14) (by omega) (by decide) dL_acts_194 (by decide) (fun h_194 => absurd h_194 (by omega)) (fun h_194 => ?_)
  refine lv_aload_n hx hb dL_acts_197 rfl (lv_at hl 0 rfl) ?_
  refine lv_aload_n hx hb dL_acts_198 rfl (lv_at hl 1 rfl) ?_
  refine lv_aload_n hx hb dL_acts_199 rfl (lv_at hl 2 rfl) ?_
  refine lv_aload_n hx hb dL_acts_200 rfl (lv_at hl 3 rfl) ?_
  refine lv_aload hx hb dL_acts_201 (lv_at hl 4 rfl) ?_
  refine lv_iload hx hb dL_acts_203 (lv_at hl 7 rfl) ?_
  refine lv_iconst (v := nI 4) hx hb dL_acts_205 (by decide) ?_
  refine lv_irem hx hb dL_acts_206 (by decide) ?_
  refine k_toi (pk_rem (by omega) (by decide) (by decide)) ?_
  refine k_if_ne (tgt := 214) hx hb (by omega) dL_acts_207 (by decide) (fun h_207 => ?_) (fun h_207 => absurd h_207 (by omega))
  refine lv_iconst (v := nI 0) hx hb dL_acts_214 (by decide) ?_
  refine k_ciA (va_runS (As := [.ref (ad 0 0), .ref (ad 9 0), .ref (ad 10 0), .ref (ad 11 0), .ref (ad 12 0), .int (nI 0)]) (rest := []) ⟨hx, hb, hml, hown, hts⟩ (c_L_isCopied_some l hlt g ad t e9 b0 hJ (by omega) hm hla) (va_cwS 6 hts gL_acts_L_isCopied rfl rfl rfl (by decide +kernel) ⟨(Nat.le_of_ble_eq_true rfl), (Nat.le_of_ble_eq_true rfl)⟩) ⟨k_blind, fun U hU hw => ⟨rfl, k_I.of hK hZ hN hS hW hU hw⟩⟩ rfl rfl hl.1 rfl (lv_room (Nat.le_of_ble_eq_true rfl)) dL_acts_215 ⟨(Nat.le_of_ble_eq_true rfl), (Nat.le_of_ble_eq_true rfl)⟩) hS (fun r u H locs hpo hW hS => ?_)
  obtain ⟨u1, ad⟩ := u
  obtain ⟨hr9, hJ1, hadp⟩ := hpo
  replace hr9 := hr9.symm; subst hr9
  have hW : k_H g ad u1 H := hW
  refine lv_if_eq (tgt := 225) hx hb dL_acts_218 (by decide) (fun h_218 => absurd h_218 (by decide)) (fun h_218 => ?_)
  refine lv_iconst (v := nI 1) hx hb dL_acts_221 (by decide) ?_
  refine lv_goto (tgt := 226) hx hb dL_acts_222 (by decide) ?_
  exact k_rzA hQ hx hb hr rfl hlk hS hW ⟨rfl, hJ1.mono (Nat.le_succ _), fun a b h1 h2 => hadp a b (fun q => h1 q.1) (fun q => h2 q.1)⟩ (Nat.le_of_ble_eq_true rfl) (Nat.le_of_ble_eq_true rfl) dL_acts_226
set_option maxRecDepth 100000 in
set_option maxHeartbeats 4000000 in
theorem c_L_acts_copynone (l : Launch) (hlt : l.stackTraces = false) (g : k_g) (ad : k_AD) (t : k_T) (e9 : Nat) (wy : Nat) (z : Nat) (hJ : q_J e9 t) (he : e9 ≤ 190) (hw1 : 8 ≤ wy) (hw2 : wy < 12) (hzz : z < 10000000) (hm : s_md t < 14) (hz4 : ¬ z % 4 = 0) (hla : k_la (s_th t) 60 = none) : Met l yL_acts wsL_acts rm_L_acts (va_Pc [.ref (ad 0 0), .ref (ad 9 0), .ref (ad 10 0), .ref (ad 11 0), .ref (ad 12 0), .ref (ad 13 0), .int (nI wy), .int (nI z)] (k_I g (k_ct g ad t) ad)) (va_Qi (S := k_T × k_AD) (fun r u => r = nI 1 ∧ q_J (e9 + 1) u.1 ∧ ∀ a b, a ≠ 25 → a ≠ 26 → u.2 a b = ad a b) (fun u U => k_H g u.2 u.1 U.heap) (k_A g)) 24 171 (k_A g) := by
  refine k_met (cc := cL_acts) (maxL := 15) (ret := (some .boolean)) (by decide) rfl (Nat.le_of_ble_eq_true rfl) (fun p e s m args below meth c Q ls hQ hx hb hr hml hts hown hlk hin hK hZ hN hW hS hl => ?_)
  have hown : s.vm.findClass RL = some m.cls := hown
  have hW : k_H g ad t s.heap := hW
  have hl : lv_has ls 15 [(0, .ref (ad 0 0)), (1, .ref (ad 9 0)), (2, .ref (ad 10 0)), (3, .ref (ad 11 0)), (4, .ref (ad 12 0)), (5, .ref (ad 13 0)), (6, .int (nI wy)), (7, .int (nI z))] := hl
  have hm14 := hJ.m14
  have hd58 := hJ.d58
  refine lv_iload hx hb dL_acts_0 (lv_at hl 6 rfl) ?_
  refine lv_iconst (v := nI 5) hx hb dL_acts_2 (by decide) ?_
  refine k_icmp_ge (tgt := 97) hx hb (a := wy) (b := 5) (by omega) (by decide) dL_acts_3 (by decide) (fun h_3 => ?_) (fun h_3 => absurd h_3 (by omega))
  refine lv_iload hx hb dL_acts_97 (lv_at hl 6 rfl) ?_
  refine lv_bipush (v := nI 8) hx hb dL_acts_99 (by decide) ?_
  refine k_icmp_ge (tgt := 181) hx hb (a := wy) (b := 8) (by omega) (by decide) dL_acts_101 (by decide) (fun h_101 => ?_) (fun h_101 => absurd h_101 (by omega))
  refine lv_iload hx hb dL_acts_181 (lv_at hl 6 rfl) ?_
  refine lv_bipush (v := nI 12) hx hb dL_acts_183 (by decide) ?_
  refine k_icmp_ge (tgt := 227) hx hb (a := wy) (b := 12) (by omega) (by decide) dL_acts_185 (by decide) (fun h_185 => absurd h_185 (by omega)) (fun h_185 => ?_)
  refine lv_aload hx hb dL_acts_188 (lv_at hl 4 rfl) ?_
  refine lv_iconst (v := nI 0) hx hb dL_acts_190 (by decide) ?_
  refine k_iald hx hb hK hW (kc_12 g ad t) 0 rfl (by omega) (by decide) dL_acts_191 ?_
  refine k_toi (y := nI (s_md t)) hJ.wm0 ?_
  refine lv_bipush (v := nI 14) hx hb dL_acts_192 (by decide) ?_
  refine k_icmp_eq (tgt := 221) hx hb (a := s_md t) (b := 14) (by omega) (by decide) dL_acts_194 (by decide) (fun h_194 => absurd h_194 (by omega)) (fun h_194 => ?_)
  refine lv_aload_n hx hb dL_acts_197 rfl (lv_at hl 0 rfl) ?_
  refine lv_aload_n hx hb dL_acts_198 rfl (lv_at hl 1 rfl) ?_
  refine lv_aload_n hx hb dL_acts_199 rfl (lv_at hl 2 rfl) ?_
  refine lv_aload_n hx hb dL_acts_200 rfl (lv_at hl 3 rfl) ?_
  refine lv_aload hx hb dL_acts_201 (lv_at hl 4 rfl) ?_
  refine lv_iload hx hb dL_acts_203 (lv_at hl 7 rfl) ?_
  refine lv_iconst (v := nI 4) hx hb dL_acts_205 (by decide) ?_
  refine lv_irem hx hb dL_acts_206 (by decide) ?_
  refine k_toi (pk_rem (by omega) (by decide) (by decide)) ?_
  refine k_if_ne (tgt := 214) hx hb (by omega) dL_acts_207 (by decide) (fun h_207 => ?_) (fun h_207 => absurd h_207 (by omega))
  refine lv_iconst (v := nI 0) hx hb dL_acts_214 (by decide) ?_
  refine k_ciA (va_runS (As := [.ref (ad 0 0), .ref (ad 9 0), .ref (ad 10 0), .ref (ad 11 0), .ref (ad 12 0), .int (nI 0)]) (rest := []) ⟨hx, hb, hml, hown, hts⟩ (c_L_isCopied_none l hlt g ad t e9 hJ (by omega) hla) (va_cwS 6 hts gL_acts_L_isCopied rfl rfl rfl (by decide +kernel) ⟨(Nat.le_of_ble_eq_true rfl), (Nat.le_of_ble_eq_true rfl)⟩) ⟨k_blind, fun U hU hw => ⟨rfl, k_I.of hK hZ hN hS hW hU hw⟩⟩ rfl rfl hl.1 rfl (lv_room (Nat.le_of_ble_eq_true rfl)) dL_acts_215 ⟨(Nat.le_of_ble_eq_true rfl), (Nat.le_of_ble_eq_true rfl)⟩) hS (fun r u H locs hpo hW hS => ?_)
  obtain ⟨u1, ad⟩ := u
  obtain ⟨hr9, hJ1, hadp⟩ := hpo
  replace hr9 := hr9.symm; subst hr9
  have hW : k_H g ad u1 H := hW
  refine lv_if_eq (tgt := 225) hx hb dL_acts_218 (by decide) (fun h_218 => absurd h_218 (by decide)) (fun h_218 => ?_)
  refine lv_iconst (v := nI 1) hx hb dL_acts_221 (by decide) ?_
  refine lv_goto (tgt := 226) hx hb dL_acts_222 (by decide) ?_
  exact k_rzA hQ hx hb hr rfl hlk hS hW ⟨rfl, hJ1.mono (Nat.le_succ _), fun a b h1 h2 => hadp a b (fun q => h1 q.1) (fun q => h2 q.1)⟩ (Nat.le_of_ble_eq_true rfl) (Nat.le_of_ble_eq_true rfl) dL_acts_226
set_option maxRecDepth 100000 in
set_option maxHeartbeats 4000000 in
theorem c_L_acts_copymax (l : Launch) (hlt : l.stackTraces = false) (g : k_g) (ad : k_AD) (t : k_T) (e9 : Nat) (wy : Nat) (z : Nat) (hJ : q_J e9 t) (he : e9 ≤ 190) (hw1 : 8 ≤ wy) (hw2 : wy < 12) (hzz : z < 10000000) (hm : s_md t = 14) : Met l yL_acts wsL_acts rm_L_acts (va_Pc [.ref (ad 0 0), .ref (ad 9 0), .ref (ad 10 0), .ref (ad 11 0), .ref (ad 12 0), .ref (ad 13 0), .int (nI wy), .int (nI z)] (k_I g (k_ct g ad t) ad)) (va_Qi (S := k_T × k_AD) (fun r u => r = nI 1 ∧ q_J (e9 + 1) u.1 ∧ ∀ a b, a ≠ 25 → a ≠ 26 → u.2 a b = ad a b) (fun u U => k_H g u.2 u.1 U.heap) (k_A g)) 24 171 (k_A g) := by
  refine k_met (cc := cL_acts) (maxL := 15) (ret := (some .boolean)) (by decide) rfl (Nat.le_of_ble_eq_true rfl) (fun p e s m args below meth c Q ls hQ hx hb hr hml hts hown hlk hin hK hZ hN hW hS hl => ?_)
  have hown : s.vm.findClass RL = some m.cls := hown
  have hW : k_H g ad t s.heap := hW
  have hl : lv_has ls 15 [(0, .ref (ad 0 0)), (1, .ref (ad 9 0)), (2, .ref (ad 10 0)), (3, .ref (ad 11 0)), (4, .ref (ad 12 0)), (5, .ref (ad 13 0)), (6, .int (nI wy)), (7, .int (nI z))] := hl
  have hm14 := hJ.m14
  have hd58 := hJ.d58
  refine lv_iload hx hb dL_acts_0 (lv_at hl 6 rfl) ?_
  refine lv_iconst (v := nI 5) hx hb dL_acts_2 (by decide) ?_
  refine k_icmp_ge (tgt := 97) hx hb (a := wy) (b := 5) (by omega) (by decide) dL_acts_3 (by decide) (fun h_3 => ?_) (fun h_3 => absurd h_3 (by omega))
  refine lv_iload hx hb dL_acts_97 (lv_at hl 6 rfl) ?_
  refine lv_bipush (v := nI 8) hx hb dL_acts_99 (by decide) ?_
  refine k_icmp_ge (tgt := 181) hx hb (a := wy) (b := 8) (by omega) (by decide) dL_acts_101 (by decide) (fun h_101 => ?_) (fun h_101 => absurd h_101 (by omega))
  refine lv_iload hx hb dL_acts_181 (lv_at hl 6 rfl) ?_
  refine lv_bipush (v := nI 12) hx hb dL_acts_183 (by decide) ?_
  refine k_icmp_ge (tgt := 227) hx hb (a := wy) (b := 12) (by omega) (by decide) dL_acts_185 (by decide) (fun h_185 => absurd h_185 (by omega)) (fun h_185 => ?_)
  refine lv_aload hx hb dL_acts_188 (lv_at hl 4 rfl) ?_
  refine lv_iconst (v := nI 0) hx hb dL_acts_190 (by decide) ?_
  refine k_iald hx hb hK hW (kc_12 g ad t) 0 rfl (by omega) (by decide) dL_acts_191 ?_
  refine k_toi (y := nI (s_md t)) hJ.wm0 ?_
  refine lv_bipush (v := nI 14) hx hb dL_acts_192 (by decide) ?_
  refine k_icmp_eq (tgt := 221) hx hb (a := s_md t) (b := 14) (by omega) (by decide) dL_acts_194 (by decide) (fun h_194 => ?_) (fun h_194 => absurd h_194 (by omega))
  refine lv_iconst (v := nI 1) hx hb dL_acts_221 (by decide) ?_
  refine lv_goto (tgt := 226) hx hb dL_acts_222 (by decide) ?_
  exact k_rzA hQ hx hb hr rfl hlk hS hW ⟨rfl, hJ.mono (Nat.le_succ _), (fun _ _ _ _ => rfl)⟩ (Nat.le_of_ble_eq_true rfl) (Nat.le_of_ble_eq_true rfl) dL_acts_226
