theorem q_wf {c w W : Nat → Int32} {M f : Nat} (h : ∀ i, W i = if 4 * M ≤ i ∧ i < 4 * M + f then c (i - 4 * M) else w i) : ∀ i, va_up W (4 * M + f) (c f) i = if 4 * M ≤ i ∧ i < 4 * M + (f + 1) then c (i - 4 * M) else w i := by
  intro i
  by_cases hi : i = 4 * M + f
  · subst hi; rw [va_up_self, if_pos (by omega), show 4 * M + f - 4 * M = f by omega]
  · rw [va_up_ne _ _ hi, h i]
    by_cases h2 : 4 * M ≤ i ∧ i < 4 * M + f
    · rw [if_pos h2, if_pos (by omega)]
    · rw [if_neg h2, if_neg (by omega)]
abbrev rm_L_isCopied : Room := { frames := 8, cells := 9, slots := 81, locals := 133 }
set_option maxRecDepth 100000 in
set_option maxHeartbeats 4000000 in
theorem c_L_isCopied_full (l : Launch) (hlt : l.stackTraces = false) (g : k_g) (ad : k_AD) (t : k_T) (e9 : Nat) (hJ : q_J e9 t) (he : e9 ≤ 200) (hm : s_md t < 14) : Met l yL_isCopied wsL_isCopied rm_L_isCopied (va_Pc [.ref (ad 0 0), .ref (ad 9 0), .ref (ad 10 0), .ref (ad 11 0), .ref (ad 12 0), .int (nI 1)] (k_I g (k_ct g ad t) ad)) (va_Qi (S := k_T × k_AD) (fun r u => r = nI 1 ∧ q_J e9 u.1 ∧ ∀ a b, ¬ (a = 25 ∧ b = s_md t) → ¬ (a = 26 ∧ b = s_md t) → u.2 a b = ad a b) (fun u U => k_H g u.2 u.1 U.heap) (k_A g)) 9 81 (k_A g) := by
  refine k_met (cc := cL_isCopied) (maxL := 9) (ret := (some .boolean)) (by decide) rfl (Nat.le_of_ble_eq_true rfl) (fun p e s m args below meth c Q ls hQ hx hb hr hml hts hown hlk hin hK hZ hN hW hS hl => ?_)
  have hown : s.vm.findClass RL = some m.cls := hown
  have hW : k_H g ad t s.heap := hW
  have hl : lv_has ls 9 [(0, .ref (ad 0 0)), (1, .ref (ad 9 0)), (2, .ref (ad 10 0)), (3, .ref (ad 11 0)), (4, .ref (ad 12 0)), (5, .int (nI 1))] := hl
  have hm14 := hJ.m14
  refine lv_iconst (v := (-1)) hx hb dL_isCopied_0 (by decide) ?_
  refine lv_istore (lv' := [(6, .int (-1)), (0, .ref (ad 0 0)), (1, .ref (ad 9 0)), (2, .ref (ad 10 0)), (3, .ref (ad 11 0)), (4, .ref (ad 12 0)), (5, .int (nI 1))]) hx hb dL_isCopied_1 hl (by decide) rfl (fun ls hl => ?_)
  refine lv_iconst (v := nI 0) hx hb dL_isCopied_3 (by decide) ?_
  refine lv_istore (lv' := [(7, .int (nI 0)), (6, .int (-1)), (0, .ref (ad 0 0)), (1, .ref (ad 9 0)), (2, .ref (ad 10 0)), (3, .ref (ad 11 0)), (4, .ref (ad 12 0)), (5, .int (nI 1))]) hx hb dL_isCopied_4 hl (by decide) rfl (fun ls hl => ?_)
  have hloop_6 : ∀ (n : Nat) (k : Nat) (bo : Option Nat), (s_md t < k + n) → (k ≤ s_md t) → (bo = k_la (s_th t) k) → ∀ (H : Heap) (locs : List Loc), k_H g ad t H → va_S (k_A g) s.heap H locs → ∀ (ls : Array Slot), lv_has ls 9 [(0, .ref (ad 0 0)), (1, .ref (ad 9 0)), (2, .ref (ad 10 0)), (3, .ref (ad 11 0)), (4, .ref (ad 12 0)), (5, .int (nI 1)), (6, .int (kO bo)), (7, .int (nI k))] → W p l e rm_L_isCopied s m args below meth c H locs 0 0 Q (F0 m 6 ls []) := by
    intro n
    induction n with
    | zero =>
      intro k bo hfu hk hbo
      exact absurd hfu (by omega)
    | succ n ih =>
      intro k bo hfu hk hbo H locs hW hS ls hl
      refine lv_iload hx hb dL_isCopied_6 (lv_at hl 7 rfl) ?_
      refine lv_aload hx hb dL_isCopied_8 (lv_at hl 4 rfl) ?_
      refine lv_iconst (v := nI 0) hx hb dL_isCopied_10 (by decide) ?_
      refine k_iald hx hb hK hW (kc_12 g ad t) 0 rfl (by omega) (by decide) dL_isCopied_11 ?_
      refine k_toi (y := nI (s_md t)) hJ.wm0 ?_
      refine k_icmp_ge (tgt := 43) hx hb (a := k) (b := s_md t) (by omega) (by omega) dL_isCopied_12 (by decide) (fun h_12 => ?_) (fun h_12 => ?_)
      · refine lv_iload hx hb dL_isCopied_43 (lv_at hl 5 rfl) ?_
        refine lv_if_ne (tgt := 68) hx hb dL_isCopied_45 (by decide) (fun h_45 => ?_) (fun h_45 => absurd h_45 (by decide))
        refine lv_aload hx hb dL_isCopied_68 (lv_at hl 4 rfl) ?_
        refine lv_iconst (v := nI 0) hx hb dL_isCopied_70 (by decide) ?_
        refine k_iald hx hb hK hW (kc_12 g ad t) 0 rfl (by omega) (by decide) dL_isCopied_71 ?_
        refine k_toi (y := nI (s_md t)) hJ.wm0 ?_
        refine lv_istore (lv' := [(7, .int (nI (s_md t))), (0, .ref (ad 0 0)), (1, .ref (ad 9 0)), (2, .ref (ad 10 0)), (3, .ref (ad 11 0)), (4, .ref (ad 12 0)), (5, .int (nI 1)), (6, .int (kO bo))]) hx hb dL_isCopied_72 hl (by decide) rfl (fun ls hl => ?_)
        refine lv_aload_n hx hb dL_isCopied_74 rfl (lv_at hl 2 rfl) ?_
        refine lv_iload hx hb dL_isCopied_75 (lv_at hl 0 rfl) ?_
        refine lv_aload hx hb dL_isCopied_77 (lv_at hl 5 rfl) ?_
        refine lv_iconst (v := nI 1) hx hb dL_isCopied_79 (by decide) ?_
        refine k_iald hx hb hK hW (kc_12 g ad t) 1 rfl (by omega) (by decide) dL_isCopied_80 ?_
        refine k_toi (y := nI (x_d t)) hJ.wm1 ?_
        refine k_iast hx hb hK hW hS (kc_9 g ad t) (s_md t) rfl (by omega) (by decide) dL_isCopied_81 (fun H locs hW hS => ?_)
        have hW : k_H g ad (set_w_x t (va_up (w_x t) (s_md t) (nI (x_d t)))) H := kt_w_x (t := t) (s_md t) (nI (x_d t)) rfl hW
        refine lv_aload_n hx hb dL_isCopied_82 rfl (lv_at hl 2 rfl) ?_
        refine lv_bipush (v := nI 14) hx hb dL_isCopied_83 (by decide) ?_
        refine lv_iload hx hb dL_isCopied_85 (lv_at hl 0 rfl) ?_
        refine k_iadd hx hb dL_isCopied_87 ?_
        refine lv_iload hx hb dL_isCopied_88 (lv_at hl 6 rfl) ?_
        refine lv_if_eq (tgt := 97) hx hb dL_isCopied_90 (by decide) (fun h_90 => absurd h_90 (by decide)) (fun h_90 => ?_)
        refine lv_iconst (v := (-1)) hx hb dL_isCopied_93 (by decide) ?_
        refine lv_goto (tgt := 99) hx hb dL_isCopied_94 (by decide) ?_
        refine k_iast hx hb hK hW hS (kc_9 g ad (set_w_x t (va_up (w_x t) (s_md t) (nI (x_d t))))) (14 + (s_md t)) rfl (by omega) (by decide) dL_isCopied_99 (fun H locs hW hS => ?_)
        have hW : k_H g ad (set_w_x t (va_up (va_up (w_x t) (s_md t) (nI (x_d t))) (14 + (s_md t)) (-1))) H := kt_w_x (t := set_w_x t (va_up (w_x t) (s_md t) (nI (x_d t)))) (14 + (s_md t)) (-1) rfl hW
        refine lv_aload_n hx hb dL_isCopied_100 rfl (lv_at hl 2 rfl) ?_
        refine lv_bipush (v := nI 28) hx hb dL_isCopied_101 (by decide) ?_
        refine lv_iload hx hb dL_isCopied_103 (lv_at hl 0 rfl) ?_
        refine k_iadd hx hb dL_isCopied_105 ?_
        refine lv_iload hx hb dL_isCopied_106 (lv_at hl 6 rfl) ?_
        refine lv_if_eq (tgt := 116) hx hb dL_isCopied_108 (by decide) (fun h_108 => absurd h_108 (by decide)) (fun h_108 => ?_)
        refine lv_bipush (v := nI 10) hx hb dL_isCopied_111 (by decide) ?_
        refine lv_goto (tgt := 126) hx hb dL_isCopied_113 (by decide) ?_
        refine k_iast hx hb hK hW hS (kc_9 g ad (set_w_x t (va_up (va_up (w_x t) (s_md t) (nI (x_d t))) (14 + (s_md t)) (-1)))) (28 + (s_md t)) rfl (by omega) (by decide) dL_isCopied_126 (fun H locs hW hS => ?_)
        have hW : k_H g ad (set_w_x t (va_up (va_up (va_up (w_x t) (s_md t) (nI (x_d t))) (14 + (s_md t)) (-1)) (28 + (s_md t)) (nI 10))) H := kt_w_x (t := set_w_x t (va_up (va_up (w_x t) (s_md t) (nI (x_d t))) (14 + (s_md t)) (-1))) (28 + (s_md t)) (nI 10) rfl hW
        refine lv_aload_n hx hb dL_isCopied_127 rfl (lv_at hl 2 rfl) ?_
        refine lv_bipush (v := nI 42) hx hb dL_isCopied_128 (by decide) ?_
        refine lv_iload hx hb dL_isCopied_130 (lv_at hl 0 rfl) ?_
        refine k_iadd hx hb dL_isCopied_132 ?_
        refine lv_iconst (v := nI 0) hx hb dL_isCopied_133 (by decide) ?_
        refine k_iast hx hb hK hW hS (kc_9 g ad (set_w_x t (va_up (va_up (va_up (w_x t) (s_md t) (nI (x_d t))) (14 + (s_md t)) (-1)) (28 + (s_md t)) (nI 10)))) (42 + (s_md t)) rfl (by omega) (by decide) dL_isCopied_134 (fun H locs hW hS => ?_)
        have hW : k_H g ad (set_w_x t (va_up (va_up (va_up (va_up (w_x t) (s_md t) (nI (x_d t))) (14 + (s_md t)) (-1)) (28 + (s_md t)) (nI 10)) (42 + (s_md t)) (nI 0))) H := kt_w_x (t := set_w_x t (va_up (va_up (va_up (w_x t) (s_md t) (nI (x_d t))) (14 + (s_md t)) (-1)) (28 + (s_md t)) (nI 10))) (42 + (s_md t)) (nI 0) rfl hW
        obtain ⟨X9, hX9⟩ : ∃ X9 : Nat → Int32, X9 = (va_up (va_up (va_up (va_up (w_x t) (s_md t) (nI (x_d t))) (14 + (s_md t)) (-1)) (28 + (s_md t)) (nI 10)) (42 + (s_md t)) (nI 0)) := ⟨_, rfl⟩
        have hW : k_H g ad (set_w_x t X9) H := by rw [hX9]; exact hW
        refine lv_iconst (v := nI 0) hx hb dL_isCopied_135 (by decide) ?_
        refine lv_istore (lv' := [(8, .int (nI 0)), (7, .int (nI (s_md t))), (0, .ref (ad 0 0)), (1, .ref (ad 9 0)), (2, .ref (ad 10 0)), (3, .ref (ad 11 0)), (4, .ref (ad 12 0)), (5, .int (nI 1)), (6, .int (kO bo))]) hx hb dL_isCopied_136 hl (by decide) rfl (fun ls hl => ?_)
        have hloop_138 : ∀ (n : Nat) (f : Nat) (W9 : Nat → Int32), (4 < f + n) → (f ≤ 4) → (∀ i, W9 i = if 4 * s_md t ≤ i ∧ i < 4 * s_md t + f then w_c t (i - 4 * s_md t) else w_w t i) → ∀ (H : Heap) (locs : List Loc), k_H g ad (set_w_w (set_w_x t X9) W9) H → va_S (k_A g) s.heap H locs → ∀ (ls : Array Slot), lv_has ls 9 [(0, .ref (ad 0 0)), (1, .ref (ad 9 0)), (2, .ref (ad 10 0)), (3, .ref (ad 11 0)), (4, .ref (ad 12 0)), (5, .int (nI 1)), (7, .int (nI (s_md t))), (8, .int (nI f))] → W p l e rm_L_isCopied s m args below meth c H locs 0 0 Q (F0 m 138 ls []) := by
          intro n
          induction n with
          | zero =>
            intro f W9 hfu2 hf hW9
            exact absurd hfu2 (by omega)
          | succ n ih_138 =>
            intro f W9 hfu2 hf hW9 H locs hW hS ls hl
            refine lv_iload hx hb dL_isCopied_138 (lv_at hl 7 rfl) ?_
            refine lv_iconst (v := nI 4) hx hb dL_isCopied_140 (by decide) ?_
            refine k_icmp_ge (tgt := 163) hx hb (a := f) (b := 4) (by omega) (by decide) dL_isCopied_141 (by decide) (fun h_141 => ?_) (fun h_141 => ?_)
            · refine lv_aload hx hb dL_isCopied_163 (lv_at hl 4 rfl) ?_
              refine lv_iconst (v := nI 2) hx hb dL_isCopied_165 (by decide) ?_
              refine lv_dup2_11 hx hb dL_isCopied_166 rfl rfl ?_
              refine k_iald hx hb hK hW (kc_12 g ad (set_w_w (set_w_x t X9) W9)) 2 rfl (by omega) (by decide) dL_isCopied_167 ?_
              refine k_toi (y := kB (s_th t)) hJ.wm2 ?_
              refine lv_iconst (v := nI 1) hx hb dL_isCopied_168 (by decide) ?_
              refine lv_iload hx hb dL_isCopied_169 (lv_at hl 6 rfl) ?_
              refine lv_ishl hx hb dL_isCopied_171 ?_
              refine lv_ior hx hb dL_isCopied_172 ?_
              refine k_toi (y := kB (va_up (s_th t) (s_md t) true)) (kB_set (s_th t) (by omega)) ?_
              refine k_iast hx hb hK hW hS (kc_12 g ad (set_w_w (set_w_x t X9) W9)) 2 rfl (by omega) (by decide) dL_isCopied_173 (fun H locs hW hS => ?_)
              have hW : k_H g ad (set_w_m (set_w_w (set_w_x t X9) W9) (va_up (w_m t) 2 (kB (va_up (s_th t) (s_md t) true)))) H := kt_w_m (t := set_w_w (set_w_x t X9) W9) 2 (kB (va_up (s_th t) (s_md t) true)) rfl hW
              refine lv_aload hx hb dL_isCopied_174 (lv_at hl 4 rfl) ?_
              refine lv_iconst (v := nI 0) hx hb dL_isCopied_176 (by decide) ?_
              refine lv_dup2_11 hx hb dL_isCopied_177 rfl rfl ?_
              refine k_iald hx hb hK hW (kc_12 g ad (set_w_m (set_w_w (set_w_x t X9) W9) (va_up (w_m t) 2 (kB (va_up (s_th t) (s_md t) true))))) 0 rfl (by omega) (by decide) dL_isCopied_178 ?_
              refine k_tov (y := .int ((va_up (w_m t) 2 (kB (va_up (s_th t) (s_md t) true))) 0)) rfl ?_
              refine k_toi (y := nI (s_md t)) (by rw [va_up_ne _ _ (by decide)]; exact hJ.wm0) ?_
              refine lv_iconst (v := nI 1) hx hb dL_isCopied_179 (by decide) ?_
              refine k_iadd hx hb dL_isCopied_180 ?_
              refine k_iast hx hb hK hW hS (kc_12 g ad (set_w_m (set_w_w (set_w_x t X9) W9) (va_up (w_m t) 2 (kB (va_up (s_th t) (s_md t) true))))) 0 rfl (by omega) (by decide) dL_isCopied_181 (fun H locs hW hS => ?_)
              have hW : k_H g ad (set_w_m (set_w_w (set_w_x t X9) W9) (va_up (va_up (w_m t) 2 (kB (va_up (s_th t) (s_md t) true))) 0 (nI ((s_md t) + 1)))) H := kt_w_m (t := set_w_m (set_w_w (set_w_x t X9) W9) (va_up (w_m t) 2 (kB (va_up (s_th t) (s_md t) true)))) 0 (nI ((s_md t) + 1)) rfl hW
              obtain ⟨M9, hM9⟩ : ∃ M9 : Nat → Int32, M9 = (va_up (va_up (w_m t) 2 (kB (va_up (s_th t) (s_md t) true))) 0 (nI ((s_md t) + 1))) := ⟨_, rfl⟩
              have hW : k_H g ad (set_w_m (set_w_w (set_w_x t X9) W9) M9) H := by rw [hM9]; exact hW
              refine lv_iload hx hb dL_isCopied_182 (lv_at hl 5 rfl) ?_
              refine lv_if_eq (tgt := 194) hx hb dL_isCopied_184 (by decide) (fun h_184 => absurd h_184 (by decide)) (fun h_184 => ?_)
              refine lv_aload_n hx hb dL_isCopied_187 rfl (lv_at hl 0 rfl) ?_
              refine k_ciA (va_runV (As := []) (rest := []) ⟨hx, hb, hml, hown, hts⟩ (c_X4_full_ok l hlt g ad (set_w_m (set_w_w (set_w_x t X9) W9) M9) (Nat.lt_of_lt_of_le hm (by decide)) hJ.onn hJ.fne hJ.hwf hJ.hbs) (cwV 0 hts gL_isCopied_X4_full rfl rfl rfl (by decide +kernel) ⟨(Nat.le_of_ble_eq_true rfl), (Nat.le_of_ble_eq_true rfl)⟩) ⟨k_blind, k_recv hK hW (kc_0 g ad (set_w_m (set_w_w (set_w_x t X9) W9) M9)) rfl, fun U hU hw => ⟨rfl, k_I.of hK hZ hN hS hW hU hw⟩⟩ rfl rfl hl.1 rfl (lv_room (Nat.le_of_ble_eq_true rfl)) dL_isCopied_188 ⟨(Nat.le_of_ble_eq_true rfl), (Nat.le_of_ble_eq_true rfl)⟩) hS (fun r u H locs hpo hW hS => ?_)
              obtain ⟨u1, ad⟩ := u
              obtain ⟨hr9, hu9, hadp⟩ := hpo
              replace hu9 := hu9.symm
              subst hr9
              have hW : k_H g ad (set_s_md (set_s_th (set_o_k (set_o_kc (set_o_n (set_o_hd (set_o_nd (set_o_pm (set_o_pv (set_o_dm (set_o_ca (set_o_b (set_o_on (set_w_m (set_w_w (set_w_x t X9) W9) M9) (va_up (o_on t) (s_md t) (x_d t))) (va_up (o_b t) (s_md t) none)) (va_up (o_ca t) (s_md t) (f_n t))) (va_up (o_dm t) (s_md t) false)) (va_up (o_pv t) (s_md t) false)) (va_up (o_pm t) (s_md t) false)) (va_up (o_nd t) (s_md t) false)) (va_up (o_hd t) (s_md t) false)) (s_md t + 1)) (va_up (o_kc t) (s_md t) (k_cnt (fun j => if j < 10 then (f_c t) j else k_K0 j)))) (va_up (o_k t) (s_md t) (fun j => if j < 10 then (f_c t) j else k_K0 j))) (va_up (s_th t) (s_md t) true)) (s_md t + 1)) H := by rw [show (set_s_md (set_s_th (set_o_k (set_o_kc (set_o_n (set_o_hd (set_o_nd (set_o_pm (set_o_pv (set_o_dm (set_o_ca (set_o_b (set_o_on (set_w_m (set_w_w (set_w_x t X9) W9) M9) (va_up (o_on t) (s_md t) (x_d t))) (va_up (o_b t) (s_md t) none)) (va_up (o_ca t) (s_md t) (f_n t))) (va_up (o_dm t) (s_md t) false)) (va_up (o_pv t) (s_md t) false)) (va_up (o_pm t) (s_md t) false)) (va_up (o_nd t) (s_md t) false)) (va_up (o_hd t) (s_md t) false)) (s_md t + 1)) (va_up (o_kc t) (s_md t) (k_cnt (fun j => if j < 10 then (f_c t) j else k_K0 j)))) (va_up (o_k t) (s_md t) (fun j => if j < 10 then (f_c t) j else k_K0 j))) (va_up (s_th t) (s_md t) true)) (s_md t + 1)) = u1 from hu9]; exact hW
              refine lv_goto (tgt := 198) hx hb dL_isCopied_191 (by decide) ?_
              refine lv_iload hx hb dL_isCopied_198 (lv_at hl 6 rfl) ?_
              refine lv_icmp_ne (tgt := 207) hx hb dL_isCopied_200 (by decide) (fun h_200 => absurd rfl h_200) (fun h_200 => ?_)
              refine lv_iconst (v := nI 1) hx hb dL_isCopied_203 (by decide) ?_
              refine lv_goto (tgt := 208) hx hb dL_isCopied_204 (by decide) ?_
              exact k_rzA hQ hx hb hr rfl hlk hS hW ⟨rfl, (hJ.made (bo := none) hm (fun b h => by cases h) (fun i h1 h2 h3 h4 => by rw [hX9, va_up_ne _ _ h4, va_up_ne _ _ h3, va_up_ne _ _ h2, va_up_ne _ _ h1]) (by rw [hX9, va_up_ne _ _ (by omega), va_up_ne _ _ (by omega), va_up_ne _ _ (by omega), va_up_self]) (by rw [hX9, va_up_ne _ _ (by omega), va_up_ne _ _ (by omega), va_up_self]; rfl) (by rw [hX9, va_up_ne _ _ (by omega), va_up_self, hJ.full.2.2]) (by rw [hX9, va_up_self]) (fun i hi => by rw [hW9, if_neg (by omega)]) (fun f9 hf9 => by rw [hW9, if_pos (by omega), show 4 * s_md t + f9 - 4 * s_md t = f9 by omega]) (by rw [hM9, va_up_self]) (by rw [hM9, va_up_ne _ _ (by decide), va_up_self]) (fun i h0 h2 => by rw [hM9, va_up_ne _ _ h0, va_up_ne _ _ h2]) (fun _ => hJ.full.1) hJ.full.2.1), hadp⟩ (Nat.le_of_ble_eq_true rfl) (Nat.le_of_ble_eq_true rfl) dL_isCopied_208
            · refine lv_aload_n hx hb dL_isCopied_144 rfl (lv_at hl 2 rfl) ?_
              refine lv_iconst (v := nI 4) hx hb dL_isCopied_145 (by decide) ?_
              refine lv_iload hx hb dL_isCopied_146 (lv_at hl 6 rfl) ?_
              refine k_imul hx hb dL_isCopied_148 ?_
              refine lv_iload hx hb dL_isCopied_149 (lv_at hl 7 rfl) ?_
              refine k_iadd hx hb dL_isCopied_151 ?_
              refine lv_aload_n hx hb dL_isCopied_152 rfl (lv_at hl 3 rfl) ?_
              refine lv_iload hx hb dL_isCopied_153 (lv_at hl 7 rfl) ?_
              refine k_iald hx hb hK hW (kc_11 g ad (set_w_w (set_w_x t X9) W9)) f rfl (by omega) (by decide) dL_isCopied_155 ?_
              refine k_iast hx hb hK hW hS (kc_10 g ad (set_w_w (set_w_x t X9) W9)) ((4 * (s_md t)) + f) rfl (by omega) (by decide) dL_isCopied_156 (fun H locs hW hS => ?_)
              have hW : k_H g ad (set_w_w (set_w_x t X9) (va_up W9 ((4 * (s_md t)) + f) (w_c t f))) H := kt_w_w (t := set_w_w (set_w_x t X9) W9) ((4 * (s_md t)) + f) (w_c t f) rfl hW
              refine lv_iinc (v := nI (f + 1)) (lv' := [(8, .int (nI (f + 1))), (0, .ref (ad 0 0)), (1, .ref (ad 9 0)), (2, .ref (ad 10 0)), (3, .ref (ad 11 0)), (4, .ref (ad 12 0)), (5, .int (nI 1)), (7, .int (nI (s_md t)))]) hx hb dL_isCopied_157 hl (k := 7) rfl (nI_add _ _) (by decide) rfl (fun ls hl => ?_)
              refine lv_goto (tgt := 138) hx hb dL_isCopied_160 (by decide) ?_
              exact ih_138 (f + 1) (va_up W9 ((4 * (s_md t)) + f) (w_c t f)) (by omega) (by omega) (q_wf hW9) _ _ hW hS _ (lv_sub hl [1, 2, 3, 4, 5, 6, 7, 0] rfl)
        have hW : k_H g ad (set_w_w (set_w_x t X9) (w_w t)) H := hW
        exact hloop_138 5 0 (w_w t) (by omega) (by omega) (fun i => by rw [if_neg (by omega)]) _ _ hW hS _ (lv_sub hl [2, 3, 4, 5, 6, 7, 1, 0] rfl)
      · refine lv_aload hx hb dL_isCopied_15 (lv_at hl 4 rfl) ?_
        refine lv_iconst (v := nI 2) hx hb dL_isCopied_17 (by decide) ?_
        refine k_iald hx hb hK hW (kc_12 g ad t) 2 rfl (by omega) (by decide) dL_isCopied_18 ?_
        refine k_toi (y := kB (s_th t)) hJ.wm2 ?_
        refine lv_iload hx hb dL_isCopied_19 (lv_at hl 7 rfl) ?_
        refine lv_ishr hx hb dL_isCopied_21 ?_
        refine lv_iconst (v := nI 1) hx hb dL_isCopied_22 (by decide) ?_
        refine lv_iand hx hb dL_isCopied_23 ?_
        refine k_toi (y := kb ((s_th t) k)) (kB_bit (s_th t) (by omega)) ?_
        refine lv_iconst (v := nI 1) hx hb dL_isCopied_24 (by decide) ?_
        refine k_b1_ne (tgt := 33) hx hb dL_isCopied_25 (by decide) (fun h_25 => ?_) (fun h_25 => ?_)
        · refine lv_iload hx hb dL_isCopied_33 (lv_at hl 6 rfl) ?_
          refine lv_istore (lv' := [(6, .int (kO bo)), (0, .ref (ad 0 0)), (1, .ref (ad 9 0)), (2, .ref (ad 10 0)), (3, .ref (ad 11 0)), (4, .ref (ad 12 0)), (5, .int (nI 1)), (7, .int (nI k))]) hx hb dL_isCopied_35 hl (by decide) rfl (fun ls hl => ?_)
          refine lv_iinc (v := nI (k + 1)) (lv' := [(7, .int (nI (k + 1))), (6, .int (kO bo)), (0, .ref (ad 0 0)), (1, .ref (ad 9 0)), (2, .ref (ad 10 0)), (3, .ref (ad 11 0)), (4, .ref (ad 12 0)), (5, .int (nI 1))]) hx hb dL_isCopied_37 hl (k := 7) rfl (nI_add _ _) (by decide) rfl (fun ls hl => ?_)
          refine lv_goto (tgt := 6) hx hb dL_isCopied_40 (by decide) ?_
          exact ih (k + 1) bo (by omega) (by omega) (by rw [k_la, if_neg (by rw [h_25]; decide)]; exact hbo) _ _ hW hS _ (lv_sub hl [2, 3, 4, 5, 6, 7, 1, 0] rfl)
        · refine lv_iload hx hb dL_isCopied_28 (lv_at hl 7 rfl) ?_
          refine lv_goto (tgt := 35) hx hb dL_isCopied_30 (by decide) ?_
          refine lv_istore (lv' := [(6, .int (nI k)), (0, .ref (ad 0 0)), (1, .ref (ad 9 0)), (2, .ref (ad 10 0)), (3, .ref (ad 11 0)), (4, .ref (ad 12 0)), (5, .int (nI 1)), (7, .int (nI k))]) hx hb dL_isCopied_35 hl (by decide) rfl (fun ls hl => ?_)
          refine lv_iinc (v := nI (k + 1)) (lv' := [(7, .int (nI (k + 1))), (6, .int (nI k)), (0, .ref (ad 0 0)), (1, .ref (ad 9 0)), (2, .ref (ad 10 0)), (3, .ref (ad 11 0)), (4, .ref (ad 12 0)), (5, .int (nI 1))]) hx hb dL_isCopied_37 hl (k := 7) rfl (nI_add _ _) (by decide) rfl (fun ls hl => ?_)
          refine lv_goto (tgt := 6) hx hb dL_isCopied_40 (by decide) ?_
          exact ih (k + 1) (some k) (by omega) (by omega) (by rw [k_la, if_pos h_25]) _ _ hW hS _ (lv_sub hl [2, 3, 4, 5, 6, 7, 1, 0] rfl)
  exact hloop_6 (s_md t + 1) 0 none (by omega) (by omega) rfl _ _ hW hS _ (lv_sub hl [2, 3, 4, 5, 6, 7, 1, 0] rfl)
set_option maxRecDepth 100000 in
set_option maxHeartbeats 4000000 in
theorem c_L_isCopied_some (l : Launch) (hlt : l.stackTraces = false) (g : k_g) (ad : k_AD) (t : k_T) (e9 : Nat) (b0 : Nat) (hJ : q_J e9 t) (he : e9 ≤ 200) (hm : s_md t < 14) (hla : k_la (s_th t) 60 = some b0) : Met l yL_isCopied wsL_isCopied rm_L_isCopied (va_Pc [.ref (ad 0 0), .ref (ad 9 0), .ref (ad 10 0), .ref (ad 11 0), .ref (ad 12 0), .int (nI 0)] (k_I g (k_ct g ad t) ad)) (va_Qi (S := k_T × k_AD) (fun r u => r = nI 1 ∧ q_J e9 u.1 ∧ ∀ a b, ¬ (a = 25 ∧ b = s_md t) → ¬ (a = 26 ∧ b = s_md t) → u.2 a b = ad a b) (fun u U => k_H g u.2 u.1 U.heap) (k_A g)) 9 81 (k_A g) := by
  refine k_met (cc := cL_isCopied) (maxL := 9) (ret := (some .boolean)) (by decide) rfl (Nat.le_of_ble_eq_true rfl) (fun p e s m args below meth c Q ls hQ hx hb hr hml hts hown hlk hin hK hZ hN hW hS hl => ?_)
  have hown : s.vm.findClass RL = some m.cls := hown
  have hW : k_H g ad t s.heap := hW
  have hl : lv_has ls 9 [(0, .ref (ad 0 0)), (1, .ref (ad 9 0)), (2, .ref (ad 10 0)), (3, .ref (ad 11 0)), (4, .ref (ad 12 0)), (5, .int (nI 0))] := hl
  have hm14 := hJ.m14
  have hb0t := (k_la_some 60 hla).1
  have hb0 := hJ.wf b0 hb0t
  refine lv_iconst (v := (-1)) hx hb dL_isCopied_0 (by decide) ?_
  refine lv_istore (lv' := [(6, .int (-1)), (0, .ref (ad 0 0)), (1, .ref (ad 9 0)), (2, .ref (ad 10 0)), (3, .ref (ad 11 0)), (4, .ref (ad 12 0)), (5, .int (nI 0))]) hx hb dL_isCopied_1 hl (by decide) rfl (fun ls hl => ?_)
  refine lv_iconst (v := nI 0) hx hb dL_isCopied_3 (by decide) ?_
  refine lv_istore (lv' := [(7, .int (nI 0)), (6, .int (-1)), (0, .ref (ad 0 0)), (1, .ref (ad 9 0)), (2, .ref (ad 10 0)), (3, .ref (ad 11 0)), (4, .ref (ad 12 0)), (5, .int (nI 0))]) hx hb dL_isCopied_4 hl (by decide) rfl (fun ls hl => ?_)
  have hloop_6 : ∀ (n : Nat) (k : Nat) (bo : Option Nat), (s_md t < k + n) → (k ≤ s_md t) → (bo = k_la (s_th t) k) → ∀ (H : Heap) (locs : List Loc), k_H g ad t H → va_S (k_A g) s.heap H locs → ∀ (ls : Array Slot), lv_has ls 9 [(0, .ref (ad 0 0)), (1, .ref (ad 9 0)), (2, .ref (ad 10 0)), (3, .ref (ad 11 0)), (4, .ref (ad 12 0)), (5, .int (nI 0)), (6, .int (kO bo)), (7, .int (nI k))] → W p l e rm_L_isCopied s m args below meth c H locs 0 0 Q (F0 m 6 ls []) := by
    intro n
    induction n with
    | zero =>
      intro k bo hfu hk hbo
      exact absurd hfu (by omega)
    | succ n ih =>
      intro k bo hfu hk hbo H locs hW hS ls hl
      refine lv_iload hx hb dL_isCopied_6 (lv_at hl 7 rfl) ?_
      refine lv_aload hx hb dL_isCopied_8 (lv_at hl 4 rfl) ?_
      refine lv_iconst (v := nI 0) hx hb dL_isCopied_10 (by decide) ?_
      refine k_iald hx hb hK hW (kc_12 g ad t) 0 rfl (by omega) (by decide) dL_isCopied_11 ?_
      refine k_toi (y := nI (s_md t)) hJ.wm0 ?_
      refine k_icmp_ge (tgt := 43) hx hb (a := k) (b := s_md t) (by omega) (by omega) dL_isCopied_12 (by decide) (fun h_12 => ?_) (fun h_12 => ?_)
      · have hbe : bo = k_la (s_th t) 60 := by rw [hbo, show k = s_md t by omega]; exact (k_la_ext 60 (by omega) hJ.wf).symm
        clear hbo
        rw [hla] at hbe
        subst hbe
        have hl : lv_has ls 9 [(0, .ref (ad 0 0)), (1, .ref (ad 9 0)), (2, .ref (ad 10 0)), (3, .ref (ad 11 0)), (4, .ref (ad 12 0)), (5, .int (nI 0)), (6, .int (nI b0)), (7, .int (nI k))] := hl
        refine lv_iload hx hb dL_isCopied_43 (lv_at hl 5 rfl) ?_
        refine lv_if_ne (tgt := 68) hx hb dL_isCopied_45 (by decide) (fun h_45 => absurd h_45 (by decide)) (fun h_45 => ?_)
        refine lv_iload hx hb dL_isCopied_48 (lv_at hl 6 rfl) ?_
        refine k_if_ge (tgt := 68) hx hb (by omega) dL_isCopied_50 (by decide) ?_
        refine lv_aload hx hb dL_isCopied_68 (lv_at hl 4 rfl) ?_
        refine lv_iconst (v := nI 0) hx hb dL_isCopied_70 (by decide) ?_
        refine k_iald hx hb hK hW (kc_12 g ad t) 0 rfl (by omega) (by decide) dL_isCopied_71 ?_
        refine k_toi (y := nI (s_md t)) hJ.wm0 ?_
        refine lv_istore (lv' := [(7, .int (nI (s_md t))), (0, .ref (ad 0 0)), (1, .ref (ad 9 0)), (2, .ref (ad 10 0)), (3, .ref (ad 11 0)), (4, .ref (ad 12 0)), (5, .int (nI 0)), (6, .int (nI b0))]) hx hb dL_isCopied_72 hl (by decide) rfl (fun ls hl => ?_)
        refine lv_aload_n hx hb dL_isCopied_74 rfl (lv_at hl 2 rfl) ?_
        refine lv_iload hx hb dL_isCopied_75 (lv_at hl 0 rfl) ?_
        refine lv_aload hx hb dL_isCopied_77 (lv_at hl 5 rfl) ?_
        refine lv_iconst (v := nI 1) hx hb dL_isCopied_79 (by decide) ?_
        refine k_iald hx hb hK hW (kc_12 g ad t) 1 rfl (by omega) (by decide) dL_isCopied_80 ?_
        refine k_toi (y := nI (x_d t)) hJ.wm1 ?_
        refine k_iast hx hb hK hW hS (kc_9 g ad t) (s_md t) rfl (by omega) (by decide) dL_isCopied_81 (fun H locs hW hS => ?_)
        have hW : k_H g ad (set_w_x t (va_up (w_x t) (s_md t) (nI (x_d t)))) H := kt_w_x (t := t) (s_md t) (nI (x_d t)) rfl hW
        refine lv_aload_n hx hb dL_isCopied_82 rfl (lv_at hl 2 rfl) ?_
        refine lv_bipush (v := nI 14) hx hb dL_isCopied_83 (by decide) ?_
        refine lv_iload hx hb dL_isCopied_85 (lv_at hl 0 rfl) ?_
        refine k_iadd hx hb dL_isCopied_87 ?_
        refine lv_iload hx hb dL_isCopied_88 (lv_at hl 6 rfl) ?_
        refine lv_if_eq (tgt := 97) hx hb dL_isCopied_90 (by decide) (fun h_90 => ?_) (fun h_90 => absurd h_90 (by decide))
        refine lv_iload hx hb dL_isCopied_97 (lv_at hl 7 rfl) ?_
        refine k_iast hx hb hK hW hS (kc_9 g ad (set_w_x t (va_up (w_x t) (s_md t) (nI (x_d t))))) (14 + (s_md t)) rfl (by omega) (by decide) dL_isCopied_99 (fun H locs hW hS => ?_)
        have hW : k_H g ad (set_w_x t (va_up (va_up (w_x t) (s_md t) (nI (x_d t))) (14 + (s_md t)) (nI b0))) H := kt_w_x (t := set_w_x t (va_up (w_x t) (s_md t) (nI (x_d t)))) (14 + (s_md t)) (nI b0) rfl hW
        refine lv_aload_n hx hb dL_isCopied_100 rfl (lv_at hl 2 rfl) ?_
        refine lv_bipush (v := nI 28) hx hb dL_isCopied_101 (by decide) ?_
        refine lv_iload hx hb dL_isCopied_103 (lv_at hl 0 rfl) ?_
        refine k_iadd hx hb dL_isCopied_105 ?_
        refine lv_iload hx hb dL_isCopied_106 (lv_at hl 6 rfl) ?_
        refine lv_if_eq (tgt := 116) hx hb dL_isCopied_108 (by decide) (fun h_108 => ?_) (fun h_108 => absurd h_108 (by decide))
        refine lv_aload_n hx hb dL_isCopied_116 rfl (lv_at hl 2 rfl) ?_
        refine lv_bipush (v := nI 42) hx hb dL_isCopied_117 (by decide) ?_
        refine lv_iload hx hb dL_isCopied_119 (lv_at hl 7 rfl) ?_
        refine k_iadd hx hb dL_isCopied_121 ?_
        refine k_iald hx hb hK hW (kc_9 g ad (set_w_x t (va_up (va_up (w_x t) (s_md t) (nI (x_d t))) (14 + (s_md t)) (nI b0)))) (42 + b0) rfl (by omega) (by decide) dL_isCopied_122 ?_
        refine k_tov (y := .int ((va_up (va_up (w_x t) (s_md t) (nI (x_d t))) (14 + (s_md t)) (nI b0)) (42 + b0))) rfl ?_
        refine k_toi (y := kB (k_chd (f_lf t) (o_ca t b0) (f_n t))) (by rw [va_up_ne _ _ (by omega), va_up_ne _ _ (by omega)]; exact hJ.wx3 b0 hb0) ?_
        refine k_ci (va_runS (As := [.int (kB (k_chd (f_lf t) (o_ca t b0) (f_n t)))]) (rest := [.int (nI (28 + (s_md t))), .ref (ad 9 0)]) ⟨hx, hb, hml, hown, hts⟩ (c_L_ones l hlt g ad (set_w_x t (va_up (va_up (w_x t) (s_md t) (nI (x_d t))) (14 + (s_md t)) (nI b0))) (k_chd (f_lf t) (o_ca t b0) (f_n t)) ) (va_cwS 1 hts gL_isCopied_L_ones rfl rfl rfl (by decide +kernel) ⟨(Nat.le_of_ble_eq_true rfl), (Nat.le_of_ble_eq_true rfl)⟩) ⟨k_blind, fun U hU hw => ⟨rfl, k_I.of hK hZ hN hS hW hU hw⟩⟩ rfl rfl hl.1 rfl (lv_room (Nat.le_of_ble_eq_true rfl)) dL_isCopied_123 ⟨(Nat.le_of_ble_eq_true rfl), (Nat.le_of_ble_eq_true rfl)⟩) hS (fun r u H locs hpo hW hS => ?_)
        obtain ⟨hr9, hu9⟩ := hpo; replace hu9 := hu9.symm; subst hu9; replace hr9 := hr9.symm; subst hr9
        refine k_iast hx hb hK hW hS (kc_9 g ad (set_w_x t (va_up (va_up (w_x t) (s_md t) (nI (x_d t))) (14 + (s_md t)) (nI b0)))) (28 + (s_md t)) rfl (by omega) (by decide) dL_isCopied_126 (fun H locs hW hS => ?_)
        have hW : k_H g ad (set_w_x t (va_up (va_up (va_up (w_x t) (s_md t) (nI (x_d t))) (14 + (s_md t)) (nI b0)) (28 + (s_md t)) (nI (k_cb (k_chd (f_lf t) (o_ca t b0) (f_n t)) 14)))) H := kt_w_x (t := set_w_x t (va_up (va_up (w_x t) (s_md t) (nI (x_d t))) (14 + (s_md t)) (nI b0))) (28 + (s_md t)) (nI (k_cb (k_chd (f_lf t) (o_ca t b0) (f_n t)) 14)) rfl hW
        refine lv_aload_n hx hb dL_isCopied_127 rfl (lv_at hl 2 rfl) ?_
        refine lv_bipush (v := nI 42) hx hb dL_isCopied_128 (by decide) ?_
        refine lv_iload hx hb dL_isCopied_130 (lv_at hl 0 rfl) ?_
        refine k_iadd hx hb dL_isCopied_132 ?_
        refine lv_iconst (v := nI 0) hx hb dL_isCopied_133 (by decide) ?_
        refine k_iast hx hb hK hW hS (kc_9 g ad (set_w_x t (va_up (va_up (va_up (w_x t) (s_md t) (nI (x_d t))) (14 + (s_md t)) (nI b0)) (28 + (s_md t)) (nI (k_cb (k_chd (f_lf t) (o_ca t b0) (f_n t)) 14))))) (42 + (s_md t)) rfl (by omega) (by decide) dL_isCopied_134 (fun H locs hW hS => ?_)
        have hW : k_H g ad (set_w_x t (va_up (va_up (va_up (va_up (w_x t) (s_md t) (nI (x_d t))) (14 + (s_md t)) (nI b0)) (28 + (s_md t)) (nI (k_cb (k_chd (f_lf t) (o_ca t b0) (f_n t)) 14))) (42 + (s_md t)) (nI 0))) H := kt_w_x (t := set_w_x t (va_up (va_up (va_up (w_x t) (s_md t) (nI (x_d t))) (14 + (s_md t)) (nI b0)) (28 + (s_md t)) (nI (k_cb (k_chd (f_lf t) (o_ca t b0) (f_n t)) 14)))) (42 + (s_md t)) (nI 0) rfl hW
        obtain ⟨X9, hX9⟩ : ∃ X9 : Nat → Int32, X9 = (va_up (va_up (va_up (va_up (w_x t) (s_md t) (nI (x_d t))) (14 + (s_md t)) (nI b0)) (28 + (s_md t)) (nI (k_cb (k_chd (f_lf t) (o_ca t b0) (f_n t)) 14))) (42 + (s_md t)) (nI 0)) := ⟨_, rfl⟩
        have hW : k_H g ad (set_w_x t X9) H := by rw [hX9]; exact hW
        refine lv_iconst (v := nI 0) hx hb dL_isCopied_135 (by decide) ?_
        refine lv_istore (lv' := [(8, .int (nI 0)), (7, .int (nI (s_md t))), (0, .ref (ad 0 0)), (1, .ref (ad 9 0)), (2, .ref (ad 10 0)), (3, .ref (ad 11 0)), (4, .ref (ad 12 0)), (5, .int (nI 0)), (6, .int (nI b0))]) hx hb dL_isCopied_136 hl (by decide) rfl (fun ls hl => ?_)
        have hloop_138 : ∀ (n : Nat) (f : Nat) (W9 : Nat → Int32), (4 < f + n) → (f ≤ 4) → (∀ i, W9 i = if 4 * s_md t ≤ i ∧ i < 4 * s_md t + f then w_c t (i - 4 * s_md t) else w_w t i) → ∀ (H : Heap) (locs : List Loc), k_H g ad (set_w_w (set_w_x t X9) W9) H → va_S (k_A g) s.heap H locs → ∀ (ls : Array Slot), lv_has ls 9 [(0, .ref (ad 0 0)), (1, .ref (ad 9 0)), (2, .ref (ad 10 0)), (3, .ref (ad 11 0)), (4, .ref (ad 12 0)), (5, .int (nI 0)), (7, .int (nI (s_md t))), (8, .int (nI f))] → W p l e rm_L_isCopied s m args below meth c H locs 0 0 Q (F0 m 138 ls []) := by
          intro n
          induction n with
          | zero =>
            intro f W9 hfu2 hf hW9
            exact absurd hfu2 (by omega)
          | succ n ih_138 =>
            intro f W9 hfu2 hf hW9 H locs hW hS ls hl
            refine lv_iload hx hb dL_isCopied_138 (lv_at hl 7 rfl) ?_
            refine lv_iconst (v := nI 4) hx hb dL_isCopied_140 (by decide) ?_
            refine k_icmp_ge (tgt := 163) hx hb (a := f) (b := 4) (by omega) (by decide) dL_isCopied_141 (by decide) (fun h_141 => ?_) (fun h_141 => ?_)
            · refine lv_aload hx hb dL_isCopied_163 (lv_at hl 4 rfl) ?_
              refine lv_iconst (v := nI 2) hx hb dL_isCopied_165 (by decide) ?_
              refine lv_dup2_11 hx hb dL_isCopied_166 rfl rfl ?_
              refine k_iald hx hb hK hW (kc_12 g ad (set_w_w (set_w_x t X9) W9)) 2 rfl (by omega) (by decide) dL_isCopied_167 ?_
              refine k_toi (y := kB (s_th t)) hJ.wm2 ?_
              refine lv_iconst (v := nI 1) hx hb dL_isCopied_168 (by decide) ?_
              refine lv_iload hx hb dL_isCopied_169 (lv_at hl 6 rfl) ?_
              refine lv_ishl hx hb dL_isCopied_171 ?_
              refine lv_ior hx hb dL_isCopied_172 ?_
              refine k_toi (y := kB (va_up (s_th t) (s_md t) true)) (kB_set (s_th t) (by omega)) ?_
              refine k_iast hx hb hK hW hS (kc_12 g ad (set_w_w (set_w_x t X9) W9)) 2 rfl (by omega) (by decide) dL_isCopied_173 (fun H locs hW hS => ?_)
              have hW : k_H g ad (set_w_m (set_w_w (set_w_x t X9) W9) (va_up (w_m t) 2 (kB (va_up (s_th t) (s_md t) true)))) H := kt_w_m (t := set_w_w (set_w_x t X9) W9) 2 (kB (va_up (s_th t) (s_md t) true)) rfl hW
              refine lv_aload hx hb dL_isCopied_174 (lv_at hl 4 rfl) ?_
              refine lv_iconst (v := nI 0) hx hb dL_isCopied_176 (by decide) ?_
              refine lv_dup2_11 hx hb dL_isCopied_177 rfl rfl ?_
              refine k_iald hx hb hK hW (kc_12 g ad (set_w_m (set_w_w (set_w_x t X9) W9) (va_up (w_m t) 2 (kB (va_up (s_th t) (s_md t) true))))) 0 rfl (by omega) (by decide) dL_isCopied_178 ?_
              refine k_tov (y := .int ((va_up (w_m t) 2 (kB (va_up (s_th t) (s_md t) true))) 0)) rfl ?_
              refine k_toi (y := nI (s_md t)) (by rw [va_up_ne _ _ (by decide)]; exact hJ.wm0) ?_
              refine lv_iconst (v := nI 1) hx hb dL_isCopied_179 (by decide) ?_
              refine k_iadd hx hb dL_isCopied_180 ?_
              refine k_iast hx hb hK hW hS (kc_12 g ad (set_w_m (set_w_w (set_w_x t X9) W9) (va_up (w_m t) 2 (kB (va_up (s_th t) (s_md t) true))))) 0 rfl (by omega) (by decide) dL_isCopied_181 (fun H locs hW hS => ?_)
              have hW : k_H g ad (set_w_m (set_w_w (set_w_x t X9) W9) (va_up (va_up (w_m t) 2 (kB (va_up (s_th t) (s_md t) true))) 0 (nI ((s_md t) + 1)))) H := kt_w_m (t := set_w_m (set_w_w (set_w_x t X9) W9) (va_up (w_m t) 2 (kB (va_up (s_th t) (s_md t) true)))) 0 (nI ((s_md t) + 1)) rfl hW
              obtain ⟨M9, hM9⟩ : ∃ M9 : Nat → Int32, M9 = (va_up (va_up (w_m t) 2 (kB (va_up (s_th t) (s_md t) true))) 0 (nI ((s_md t) + 1))) := ⟨_, rfl⟩
              have hW : k_H g ad (set_w_m (set_w_w (set_w_x t X9) W9) M9) H := by rw [hM9]; exact hW
              refine lv_iload hx hb dL_isCopied_182 (lv_at hl 5 rfl) ?_
              refine lv_if_eq (tgt := 194) hx hb dL_isCopied_184 (by decide) (fun h_184 => ?_) (fun h_184 => absurd h_184 (by decide))
              refine lv_aload_n hx hb dL_isCopied_194 rfl (lv_at hl 0 rfl) ?_
              refine k_ciA (lw_va (vx_runSX (As := [.ref (ad 0 0)]) (rest := []) ⟨hx, hb, hml, hown, hts⟩ (cw_increment_ok l hlt g ad (set_w_m (set_w_w (set_w_x t X9) W9) M9) b0 (Nat.lt_of_lt_of_le hm (by decide)) hJ.onn hJ.fne hJ.hwf hJ.hbs hla hb0 (hJ.cab b0 hb0) (Nat.le_trans hJ.fn (Nat.le_trans he (by decide))) (fun i hi => Nat.lt_trans (hJ.flf i hi) (by decide))) (vx_cwSW 1 hts gL_isCopied_L_incremented rfl rfl rfl (by decide +kernel) ⟨(Nat.le_of_ble_eq_true rfl), (Nat.le_of_ble_eq_true rfl)⟩) ⟨k_blind, fun U hU hw => ⟨rfl, k_I.of hK hZ hN hS hW hU hw⟩⟩ rfl rfl hl.1 rfl (lv_room (Nat.le_of_ble_eq_true rfl)) dL_isCopied_195 ⟨(Nat.le_of_ble_eq_true rfl), (Nat.le_of_ble_eq_true rfl)⟩)) hS (fun r u H locs hpo hW hS => ?_)
              obtain ⟨u1, ad⟩ := u
              obtain ⟨hr9, hu9, hadp⟩ := hpo
              replace hu9 := hu9.symm
              subst hr9
              have hW : k_H g ad (set_s_md (set_s_th (set_o_k (set_o_kc (set_o_n (set_o_hd (set_o_nd (set_o_pm (set_o_pv (set_o_dm (set_o_ca (set_o_b (set_o_on (set_w_m (set_w_w (set_w_x t X9) W9) M9) (va_up (o_on t) (s_md t) (x_d t))) (va_up (o_b t) (s_md t) (some b0))) (va_up (o_ca t) (s_md t) (f_n t))) (va_up (o_dm t) (s_md t) false)) (va_up (o_pv t) (s_md t) false)) (va_up (o_pm t) (s_md t) false)) (va_up (o_nd t) (s_md t) false)) (va_up (o_hd t) (s_md t) false)) (s_md t + 1)) (va_up (o_kc t) (s_md t) (k_cnt (fun j => if k_chd (f_lf t) (o_ca t b0) (f_n t) j = true then (f_c t) j else k_K0 j)))) (va_up (o_k t) (s_md t) (fun j => if k_chd (f_lf t) (o_ca t b0) (f_n t) j = true then (f_c t) j else k_K0 j))) (va_up (s_th t) (s_md t) true)) (s_md t + 1)) H := by rw [show (set_s_md (set_s_th (set_o_k (set_o_kc (set_o_n (set_o_hd (set_o_nd (set_o_pm (set_o_pv (set_o_dm (set_o_ca (set_o_b (set_o_on (set_w_m (set_w_w (set_w_x t X9) W9) M9) (va_up (o_on t) (s_md t) (x_d t))) (va_up (o_b t) (s_md t) (some b0))) (va_up (o_ca t) (s_md t) (f_n t))) (va_up (o_dm t) (s_md t) false)) (va_up (o_pv t) (s_md t) false)) (va_up (o_pm t) (s_md t) false)) (va_up (o_nd t) (s_md t) false)) (va_up (o_hd t) (s_md t) false)) (s_md t + 1)) (va_up (o_kc t) (s_md t) (k_cnt (fun j => if k_chd (f_lf t) (o_ca t b0) (f_n t) j = true then (f_c t) j else k_K0 j)))) (va_up (o_k t) (s_md t) (fun j => if k_chd (f_lf t) (o_ca t b0) (f_n t) j = true then (f_c t) j else k_K0 j))) (va_up (s_th t) (s_md t) true)) (s_md t + 1)) = u1 from hu9]; exact hW
              refine lv_iload hx hb dL_isCopied_198 (lv_at hl 6 rfl) ?_
              refine lv_icmp_ne (tgt := 207) hx hb dL_isCopied_200 (by decide) (fun h_200 => absurd rfl h_200) (fun h_200 => ?_)
              refine lv_iconst (v := nI 1) hx hb dL_isCopied_203 (by decide) ?_
              refine lv_goto (tgt := 208) hx hb dL_isCopied_204 (by decide) ?_
              exact k_rzA hQ hx hb hr rfl hlk hS hW ⟨rfl, (hJ.made (bo := (some b0)) hm (fun b h => by cases h; exact hb0t) (fun i h1 h2 h3 h4 => by rw [hX9, va_up_ne _ _ h4, va_up_ne _ _ h3, va_up_ne _ _ h2, va_up_ne _ _ h1]) (by rw [hX9, va_up_ne _ _ (by omega), va_up_ne _ _ (by omega), va_up_ne _ _ (by omega), va_up_self]) (by rw [hX9, va_up_ne _ _ (by omega), va_up_ne _ _ (by omega), va_up_self]; rfl) (by rw [hX9, va_up_ne _ _ (by omega), va_up_self, (hJ.incr hb0t).2]) (by rw [hX9, va_up_self]) (fun i hi => by rw [hW9, if_neg (by omega)]) (fun f9 hf9 => by rw [hW9, if_pos (by omega), show 4 * s_md t + f9 - 4 * s_md t = f9 by omega]) (by rw [hM9, va_up_self]) (by rw [hM9, va_up_ne _ _ (by decide), va_up_self]) (fun i h0 h2 => by rw [hM9, va_up_ne _ _ h0, va_up_ne _ _ h2]) (fun h => by cases h) (hJ.incr hb0t).1), hadp⟩ (Nat.le_of_ble_eq_true rfl) (Nat.le_of_ble_eq_true rfl) dL_isCopied_208
            · refine lv_aload_n hx hb dL_isCopied_144 rfl (lv_at hl 2 rfl) ?_
              refine lv_iconst (v := nI 4) hx hb dL_isCopied_145 (by decide) ?_
              refine lv_iload hx hb dL_isCopied_146 (lv_at hl 6 rfl) ?_
              refine k_imul hx hb dL_isCopied_148 ?_
              refine lv_iload hx hb dL_isCopied_149 (lv_at hl 7 rfl) ?_
              refine k_iadd hx hb dL_isCopied_151 ?_
              refine lv_aload_n hx hb dL_isCopied_152 rfl (lv_at hl 3 rfl) ?_
              refine lv_iload hx hb dL_isCopied_153 (lv_at hl 7 rfl) ?_
              refine k_iald hx hb hK hW (kc_11 g ad (set_w_w (set_w_x t X9) W9)) f rfl (by omega) (by decide) dL_isCopied_155 ?_
              refine k_iast hx hb hK hW hS (kc_10 g ad (set_w_w (set_w_x t X9) W9)) ((4 * (s_md t)) + f) rfl (by omega) (by decide) dL_isCopied_156 (fun H locs hW hS => ?_)
              have hW : k_H g ad (set_w_w (set_w_x t X9) (va_up W9 ((4 * (s_md t)) + f) (w_c t f))) H := kt_w_w (t := set_w_w (set_w_x t X9) W9) ((4 * (s_md t)) + f) (w_c t f) rfl hW
              refine lv_iinc (v := nI (f + 1)) (lv' := [(8, .int (nI (f + 1))), (0, .ref (ad 0 0)), (1, .ref (ad 9 0)), (2, .ref (ad 10 0)), (3, .ref (ad 11 0)), (4, .ref (ad 12 0)), (5, .int (nI 0)), (7, .int (nI (s_md t)))]) hx hb dL_isCopied_157 hl (k := 7) rfl (nI_add _ _) (by decide) rfl (fun ls hl => ?_)
              refine lv_goto (tgt := 138) hx hb dL_isCopied_160 (by decide) ?_
              exact ih_138 (f + 1) (va_up W9 ((4 * (s_md t)) + f) (w_c t f)) (by omega) (by omega) (q_wf hW9) _ _ hW hS _ (lv_sub hl [1, 2, 3, 4, 5, 6, 7, 0] rfl)
        have hW : k_H g ad (set_w_w (set_w_x t X9) (w_w t)) H := hW
        exact hloop_138 5 0 (w_w t) (by omega) (by omega) (fun i => by rw [if_neg (by omega)]) _ _ hW hS _ (lv_sub hl [2, 3, 4, 5, 6, 7, 1, 0] rfl)
      · refine lv_aload hx hb dL_isCopied_15 (lv_at hl 4 rfl) ?_
        refine lv_iconst (v := nI 2) hx hb dL_isCopied_17 (by decide) ?_
        refine k_iald hx hb hK hW (kc_12 g ad t) 2 rfl (by omega) (by decide) dL_isCopied_18 ?_
        refine k_toi (y := kB (s_th t)) hJ.wm2 ?_
        refine lv_iload hx hb dL_isCopied_19 (lv_at hl 7 rfl) ?_
        refine lv_ishr hx hb dL_isCopied_21 ?_
        refine lv_iconst (v := nI 1) hx hb dL_isCopied_22 (by decide) ?_
        refine lv_iand hx hb dL_isCopied_23 ?_
        refine k_toi (y := kb ((s_th t) k)) (kB_bit (s_th t) (by omega)) ?_
        refine lv_iconst (v := nI 1) hx hb dL_isCopied_24 (by decide) ?_
        refine k_b1_ne (tgt := 33) hx hb dL_isCopied_25 (by decide) (fun h_25 => ?_) (fun h_25 => ?_)
        · refine lv_iload hx hb dL_isCopied_33 (lv_at hl 6 rfl) ?_
          refine lv_istore (lv' := [(6, .int (kO bo)), (0, .ref (ad 0 0)), (1, .ref (ad 9 0)), (2, .ref (ad 10 0)), (3, .ref (ad 11 0)), (4, .ref (ad 12 0)), (5, .int (nI 0)), (7, .int (nI k))]) hx hb dL_isCopied_35 hl (by decide) rfl (fun ls hl => ?_)
          refine lv_iinc (v := nI (k + 1)) (lv' := [(7, .int (nI (k + 1))), (6, .int (kO bo)), (0, .ref (ad 0 0)), (1, .ref (ad 9 0)), (2, .ref (ad 10 0)), (3, .ref (ad 11 0)), (4, .ref (ad 12 0)), (5, .int (nI 0))]) hx hb dL_isCopied_37 hl (k := 7) rfl (nI_add _ _) (by decide) rfl (fun ls hl => ?_)
          refine lv_goto (tgt := 6) hx hb dL_isCopied_40 (by decide) ?_
          exact ih (k + 1) bo (by omega) (by omega) (by rw [k_la, if_neg (by rw [h_25]; decide)]; exact hbo) _ _ hW hS _ (lv_sub hl [2, 3, 4, 5, 6, 7, 1, 0] rfl)
        · refine lv_iload hx hb dL_isCopied_28 (lv_at hl 7 rfl) ?_
          refine lv_goto (tgt := 35) hx hb dL_isCopied_30 (by decide) ?_
          refine lv_istore (lv' := [(6, .int (nI k)), (0, .ref (ad 0 0)), (1, .ref (ad 9 0)), (2, .ref (ad 10 0)), (3, .ref (ad 11 0)), (4, .ref (ad 12 0)), (5, .int (nI 0)), (7, .int (nI k))]) hx hb dL_isCopied_35 hl (by decide) rfl (fun ls hl => ?_)
          refine lv_iinc (v := nI (k + 1)) (lv' := [(7, .int (nI (k + 1))), (6, .int (nI k)), (0, .ref (ad 0 0)), (1, .ref (ad 9 0)), (2, .ref (ad 10 0)), (3, .ref (ad 11 0)), (4, .ref (ad 12 0)), (5, .int (nI 0))]) hx hb dL_isCopied_37 hl (k := 7) rfl (nI_add _ _) (by decide) rfl (fun ls hl => ?_)
          refine lv_goto (tgt := 6) hx hb dL_isCopied_40 (by decide) ?_
          exact ih (k + 1) (some k) (by omega) (by omega) (by rw [k_la, if_pos h_25]) _ _ hW hS _ (lv_sub hl [2, 3, 4, 5, 6, 7, 1, 0] rfl)
  exact hloop_6 (s_md t + 1) 0 none (by omega) (by omega) rfl _ _ hW hS _ (lv_sub hl [2, 3, 4, 5, 6, 7, 1, 0] rfl)
set_option maxRecDepth 100000 in
set_option maxHeartbeats 4000000 in
theorem c_L_isCopied_none (l : Launch) (hlt : l.stackTraces = false) (g : k_g) (ad : k_AD) (t : k_T) (e9 : Nat) (hJ : q_J e9 t) (he : e9 ≤ 200) (hla : k_la (s_th t) 60 = none) : Met l yL_isCopied wsL_isCopied rm_L_isCopied (va_Pc [.ref (ad 0 0), .ref (ad 9 0), .ref (ad 10 0), .ref (ad 11 0), .ref (ad 12 0), .int (nI 0)] (k_I g (k_ct g ad t) ad)) (va_Qi (S := k_T × k_AD) (fun r u => r = nI 1 ∧ q_J e9 u.1 ∧ ∀ a b, ¬ (a = 25 ∧ b = s_md t) → ¬ (a = 26 ∧ b = s_md t) → u.2 a b = ad a b) (fun u U => k_H g u.2 u.1 U.heap) (k_A g)) 9 81 (k_A g) := by
  refine k_met (cc := cL_isCopied) (maxL := 9) (ret := (some .boolean)) (by decide) rfl (Nat.le_of_ble_eq_true rfl) (fun p e s m args below meth c Q ls hQ hx hb hr hml hts hown hlk hin hK hZ hN hW hS hl => ?_)
  have hown : s.vm.findClass RL = some m.cls := hown
  have hW : k_H g ad t s.heap := hW
  have hl : lv_has ls 9 [(0, .ref (ad 0 0)), (1, .ref (ad 9 0)), (2, .ref (ad 10 0)), (3, .ref (ad 11 0)), (4, .ref (ad 12 0)), (5, .int (nI 0))] := hl
  have hm14 := hJ.m14
  refine lv_iconst (v := (-1)) hx hb dL_isCopied_0 (by decide) ?_
  refine lv_istore (lv' := [(6, .int (-1)), (0, .ref (ad 0 0)), (1, .ref (ad 9 0)), (2, .ref (ad 10 0)), (3, .ref (ad 11 0)), (4, .ref (ad 12 0)), (5, .int (nI 0))]) hx hb dL_isCopied_1 hl (by decide) rfl (fun ls hl => ?_)
  refine lv_iconst (v := nI 0) hx hb dL_isCopied_3 (by decide) ?_
  refine lv_istore (lv' := [(7, .int (nI 0)), (6, .int (-1)), (0, .ref (ad 0 0)), (1, .ref (ad 9 0)), (2, .ref (ad 10 0)), (3, .ref (ad 11 0)), (4, .ref (ad 12 0)), (5, .int (nI 0))]) hx hb dL_isCopied_4 hl (by decide) rfl (fun ls hl => ?_)
  have hloop_6 : ∀ (n : Nat) (k : Nat) (bo : Option Nat), (s_md t < k + n) → (k ≤ s_md t) → (bo = k_la (s_th t) k) → ∀ (H : Heap) (locs : List Loc), k_H g ad t H → va_S (k_A g) s.heap H locs → ∀ (ls : Array Slot), lv_has ls 9 [(0, .ref (ad 0 0)), (1, .ref (ad 9 0)), (2, .ref (ad 10 0)), (3, .ref (ad 11 0)), (4, .ref (ad 12 0)), (5, .int (nI 0)), (6, .int (kO bo)), (7, .int (nI k))] → W p l e rm_L_isCopied s m args below meth c H locs 0 0 Q (F0 m 6 ls []) := by
    intro n
    induction n with
    | zero =>
      intro k bo hfu hk hbo
      exact absurd hfu (by omega)
    | succ n ih =>
      intro k bo hfu hk hbo H locs hW hS ls hl
      refine lv_iload hx hb dL_isCopied_6 (lv_at hl 7 rfl) ?_
      refine lv_aload hx hb dL_isCopied_8 (lv_at hl 4 rfl) ?_
      refine lv_iconst (v := nI 0) hx hb dL_isCopied_10 (by decide) ?_
      refine k_iald hx hb hK hW (kc_12 g ad t) 0 rfl (by omega) (by decide) dL_isCopied_11 ?_
      refine k_toi (y := nI (s_md t)) hJ.wm0 ?_
      refine k_icmp_ge (tgt := 43) hx hb (a := k) (b := s_md t) (by omega) (by omega) dL_isCopied_12 (by decide) (fun h_12 => ?_) (fun h_12 => ?_)
      · have hbe : bo = k_la (s_th t) 60 := by rw [hbo, show k = s_md t by omega]; exact (k_la_ext 60 (by omega) hJ.wf).symm
        clear hbo
        rw [hla] at hbe
        subst hbe
        have hl : lv_has ls 9 [(0, .ref (ad 0 0)), (1, .ref (ad 9 0)), (2, .ref (ad 10 0)), (3, .ref (ad 11 0)), (4, .ref (ad 12 0)), (5, .int (nI 0)), (6, .int (-1)), (7, .int (nI k))] := hl
        refine lv_iload hx hb dL_isCopied_43 (lv_at hl 5 rfl) ?_
        refine lv_if_ne (tgt := 68) hx hb dL_isCopied_45 (by decide) (fun h_45 => absurd h_45 (by decide)) (fun h_45 => ?_)
        refine lv_iload hx hb dL_isCopied_48 (lv_at hl 6 rfl) ?_
        refine lv_if_ge (tgt := 68) hx hb dL_isCopied_50 (by decide) (fun h_50 => absurd h_50 (by decide)) (fun h_50 => ?_)
        refine lv_aload_n hx hb dL_isCopied_53 rfl (lv_at hl 0 rfl) ?_
        refine k_ci (lw_va (vx_runSX (As := [.ref (ad 0 0)]) (rest := []) ⟨hx, hb, hml, hown, hts⟩ (cw_increment_is l hlt g ad t (by omega) hJ.hbs (Or.inr hla)) (vx_cwSW 1 hts gL_isCopied_L_incremented rfl rfl rfl (by decide +kernel) ⟨(Nat.le_of_ble_eq_true rfl), (Nat.le_of_ble_eq_true rfl)⟩) ⟨k_blind, fun U hU hw => ⟨rfl, k_I.of hK hZ hN hS hW hU hw⟩⟩ rfl rfl hl.1 rfl (lv_room (Nat.le_of_ble_eq_true rfl)) dL_isCopied_54 ⟨(Nat.le_of_ble_eq_true rfl), (Nat.le_of_ble_eq_true rfl)⟩)) hS (fun r u H locs hpo hW hS => ?_)
        obtain ⟨hr9, hu9⟩ := hpo; replace hu9 := hu9.symm; subst hu9; replace hr9 := hr9.symm; subst hr9
        refine lv_bipush (v := (-5)) hx hb dL_isCopied_57 (by decide) ?_
        refine lv_icmp_ne (tgt := 66) hx hb dL_isCopied_59 (by decide) (fun h_59 => absurd rfl h_59) (fun h_59 => ?_)
        refine lv_iconst (v := nI 1) hx hb dL_isCopied_62 (by decide) ?_
        refine lv_goto (tgt := 67) hx hb dL_isCopied_63 (by decide) ?_
        exact k_rzA hQ hx hb hr rfl hlk hS hW ⟨rfl, hJ, fun _ _ _ _ => rfl⟩ (Nat.le_of_ble_eq_true rfl) (Nat.le_of_ble_eq_true rfl) dL_isCopied_67
      · refine lv_aload hx hb dL_isCopied_15 (lv_at hl 4 rfl) ?_
        refine lv_iconst (v := nI 2) hx hb dL_isCopied_17 (by decide) ?_
        refine k_iald hx hb hK hW (kc_12 g ad t) 2 rfl (by omega) (by decide) dL_isCopied_18 ?_
        refine k_toi (y := kB (s_th t)) hJ.wm2 ?_
        refine lv_iload hx hb dL_isCopied_19 (lv_at hl 7 rfl) ?_
        refine lv_ishr hx hb dL_isCopied_21 ?_
        refine lv_iconst (v := nI 1) hx hb dL_isCopied_22 (by decide) ?_
        refine lv_iand hx hb dL_isCopied_23 ?_
        refine k_toi (y := kb ((s_th t) k)) (kB_bit (s_th t) (by omega)) ?_
        refine lv_iconst (v := nI 1) hx hb dL_isCopied_24 (by decide) ?_
        refine k_b1_ne (tgt := 33) hx hb dL_isCopied_25 (by decide) (fun h_25 => ?_) (fun h_25 => ?_)
        · refine lv_iload hx hb dL_isCopied_33 (lv_at hl 6 rfl) ?_
          refine lv_istore (lv' := [(6, .int (kO bo)), (0, .ref (ad 0 0)), (1, .ref (ad 9 0)), (2, .ref (ad 10 0)), (3, .ref (ad 11 0)), (4, .ref (ad 12 0)), (5, .int (nI 0)), (7, .int (nI k))]) hx hb dL_isCopied_35 hl (by decide) rfl (fun ls hl => ?_)
          refine lv_iinc (v := nI (k + 1)) (lv' := [(7, .int (nI (k + 1))), (6, .int (kO bo)), (0, .ref (ad 0 0)), (1, .ref (ad 9 0)), (2, .ref (ad 10 0)), (3, .ref (ad 11 0)), (4, .ref (ad 12 0)), (5, .int (nI 0))]) hx hb dL_isCopied_37 hl (k := 7) rfl (nI_add _ _) (by decide) rfl (fun ls hl => ?_)
          refine lv_goto (tgt := 6) hx hb dL_isCopied_40 (by decide) ?_
          exact ih (k + 1) bo (by omega) (by omega) (by rw [k_la, if_neg (by rw [h_25]; decide)]; exact hbo) _ _ hW hS _ (lv_sub hl [2, 3, 4, 5, 6, 7, 1, 0] rfl)
        · refine lv_iload hx hb dL_isCopied_28 (lv_at hl 7 rfl) ?_
          refine lv_goto (tgt := 35) hx hb dL_isCopied_30 (by decide) ?_
          refine lv_istore (lv' := [(6, .int (nI k)), (0, .ref (ad 0 0)), (1, .ref (ad 9 0)), (2, .ref (ad 10 0)), (3, .ref (ad 11 0)), (4, .ref (ad 12 0)), (5, .int (nI 0)), (7, .int (nI k))]) hx hb dL_isCopied_35 hl (by decide) rfl (fun ls hl => ?_)
          refine lv_iinc (v := nI (k + 1)) (lv' := [(7, .int (nI (k + 1))), (6, .int (nI k)), (0, .ref (ad 0 0)), (1, .ref (ad 9 0)), (2, .ref (ad 10 0)), (3, .ref (ad 11 0)), (4, .ref (ad 12 0)), (5, .int (nI 0))]) hx hb dL_isCopied_37 hl (k := 7) rfl (nI_add _ _) (by decide) rfl (fun ls hl => ?_)
          refine lv_goto (tgt := 6) hx hb dL_isCopied_40 (by decide) ?_
          exact ih (k + 1) (some k) (by omega) (by omega) (by rw [k_la, if_pos h_25]) _ _ hW hS _ (lv_sub hl [2, 3, 4, 5, 6, 7, 1, 0] rfl)
  exact hloop_6 (s_md t + 1) 0 none (by omega) (by omega) rfl _ _ hW hS _ (lv_sub hl [2, 3, 4, 5, 6, 7, 1, 0] rfl)
