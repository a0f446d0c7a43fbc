abbrev rm_X5_thin : Room := { frames := 2, cells := 0, slots := 0, locals := 48 }
set_option maxRecDepth 100000 in
set_option maxHeartbeats 4000000 in
theorem c_X5_thin (l : Launch) (hlt : l.stackTraces = false) (g : k_g) (ad : k_AD) (t : k_T) (hmt : ∀ j, m_th t j = true → j < m_md t) (hm60 : m_md t ≤ 60) (hmb : ∀ k b, k < m_md t → m_b t k = some b → b < k) (hmo : ∀ j, j < m_md t → m_on t j ≤ 360) (hr1 : m_r1 t ≤ 30) (hr2 : m_r2 t ≤ 30) (hr3 : m_r3 t ≤ 30) : Met l yX5_thin wsX5_thin rm_X5_thin (va_Pc [.ref (ad 9 0)] (k_I g (k_ct g ad t) ad)) (va_Qi (fun r u => r = nI (k_sm (k_LS (m_md t) (m_th t) (k_NmM (m_md t) (m_nd t) (k_PmM (m_md t) (m_th t) (m_pm t) (m_on t) (m_r1 t) (m_r2 t) (m_r3 t)) (m_b t)) (m_b t) (m_on t) (m_ls t) (k_lp (fun k => (m_th t) k && (m_pv t) k) (m_on t) (m_md t))) (fun k => (m_sz t) k + 1) (m_md t)) ∧ u = set_m_th (set_m_ls (set_m_nd (set_m_pm (set_m_l t 0) (k_PmM (m_md t) (m_th t) (m_pm t) (m_on t) (m_r1 t) (m_r2 t) (m_r3 t))) (k_NmM (m_md t) (m_nd t) (k_PmM (m_md t) (m_th t) (m_pm t) (m_on t) (m_r1 t) (m_r2 t) (m_r3 t)) (m_b t))) (k_LS (m_md t) (m_th t) (k_NmM (m_md t) (m_nd t) (k_PmM (m_md t) (m_th t) (m_pm t) (m_on t) (m_r1 t) (m_r2 t) (m_r3 t)) (m_b t)) (m_b t) (m_on t) (m_ls t) (k_lp (fun k => (m_th t) k && (m_pv t) k) (m_on t) (m_md t)))) (fun j => (m_th t) j && !((k_LS (m_md t) (m_th t) (k_NmM (m_md t) (m_nd t) (k_PmM (m_md t) (m_th t) (m_pm t) (m_on t) (m_r1 t) (m_r2 t) (m_r3 t)) (m_b t)) (m_b t) (m_on t) (m_ls t) (k_lp (fun k => (m_th t) k && (m_pv t) k) (m_on t) (m_md t))) j))) (fun u U => k_H g ad u U.heap) (k_A g)) 0 0 (k_A g) := by
  refine k_met (cc := cX5_thin) (maxL := 4) (ret := (some .int)) (by decide) rfl (Nat.le_of_ble_eq_true rfl) (fun p e s m args below meth c Q ls hQ hx hb hr hml hts hown hlk hin hK hZ hN hW hS hl => ?_)
  have hown : s.vm.findClass RX5 = some m.cls := hown
  have hW : k_H g ad t s.heap := hW
  have hl : lv_has ls 4 [(0, .ref (ad 9 0))] := hl
  have hinX5 : ∀ w ∈ wsX50, w ∈ wsX5_thin := by decide +kernel
  refine lv_aload_n hx hb dX5_thin_0 rfl (lv_at hl 0 rfl) ?_
  refine lv_iconst (v := nI 0) hx hb dX5_thin_1 (by decide) ?_
  refine k_put (own := RX5) (C := RX5) (T := TX5) (N := 21) hx hb hts hinX5 tyX5 tyX5_ok nmX5 hown hK hW hS (kc_9 g ad t) rfl 20 (by decide) (hts (.fieldLink RX5 63 "DrillVaultModel" "last" "I") (by decide +kernel)) rfl rfl (ty := tyX5 20) (v := .int (nI 0)) (tyX5_ok 20 (by decide)) rfl rfl (Nat.le_of_ble_eq_true rfl) dX5_thin_2 (fun H locs hW hS => ?_)
  have hW : k_H g ad (set_m_l t 0) H := kt_m_l (t := t) 0 rfl hW
  refine lv_iconst (v := (-1)) hx hb dX5_thin_5 (by decide) ?_
  refine lv_istore_n (lv' := [(1, .int (-1)), (0, .ref (ad 9 0))]) hx hb dX5_thin_6 rfl hl (by decide) rfl (fun ls hl => ?_)
  refine lv_aload_n hx hb dX5_thin_7 rfl (lv_at hl 1 rfl) ?_
  refine k_ci (va_runV (As := []) (rest := []) ⟨hx, hb, hml, hown, hts⟩ (c_X5_marks l hlt g ad (set_m_l t 0) hm60 hmb hmo hr1 hr2 hr3) (cwV 0 hts gX5_thin_X5_marks rfl rfl rfl (by decide +kernel) ⟨(Nat.le_of_ble_eq_true rfl), (Nat.le_of_ble_eq_true rfl)⟩) ⟨k_blind, k_recv hK hW (kc_9 g ad (set_m_l t 0)) rfl, fun U hU hw => ⟨rfl, k_I.of hK hZ hN hS hW hU hw⟩⟩ rfl rfl hl.1 rfl (lv_room (Nat.le_of_ble_eq_true rfl)) dX5_thin_8 ⟨(Nat.le_of_ble_eq_true rfl), (Nat.le_of_ble_eq_true rfl)⟩) hS (fun r u H locs hpo hW hS => ?_)
  obtain ⟨hr9, hu9⟩ := hpo; replace hu9 := hu9.symm; subst hu9; replace hr9 := hr9.symm; subst hr9
  have hW : k_H g ad (set_m_nd (set_m_pm (set_m_l t 0) (k_PmM (m_md t) (m_th t) (m_pm t) (m_on t) (m_r1 t) (m_r2 t) (m_r3 t))) (k_NmM (m_md t) (m_nd t) (k_PmM (m_md t) (m_th t) (m_pm t) (m_on t) (m_r1 t) (m_r2 t) (m_r3 t)) (m_b t))) H := hW
  refine lv_pop hx hb dX5_thin_11 rfl ?_
  obtain ⟨NV, hNV⟩ : ∃ NV, NV = (k_NmM (m_md t) (m_nd t) (k_PmM (m_md t) (m_th t) (m_pm t) (m_on t) (m_r1 t) (m_r2 t) (m_r3 t)) (m_b t)) := ⟨_, rfl⟩
  obtain ⟨PV, hPV⟩ : ∃ PV, PV = (k_PmM (m_md t) (m_th t) (m_pm t) (m_on t) (m_r1 t) (m_r2 t) (m_r3 t)) := ⟨_, rfl⟩
  have hW : k_H g ad (set_m_nd (set_m_pm (set_m_l t 0) PV) NV) H := by rw [hNV, hPV]; exact hW
  refine lv_iconst (v := nI 0) hx hb dX5_thin_12 (by decide) ?_
  refine lv_istore_n (lv' := [(2, .int (nI 0)), (1, .int (-1)), (0, .ref (ad 9 0))]) hx hb dX5_thin_13 rfl hl (by decide) rfl (fun ls hl => ?_)
  have hloop_14 : ∀ (n : Nat) (i : Nat) (z : Int32), (m_md t < i + n) → (i ≤ m_md t) → (z = k_lp (fun k => m_th t k && m_pv t k) (m_on t) i) → ∀ (H : Heap) (locs : List Loc), k_H g ad (set_m_nd (set_m_pm (set_m_l t 0) PV) NV) H → va_S (k_A g) s.heap H locs → ∀ (ls : Array Slot), lv_has ls 4 [(0, .ref (ad 9 0)), (1, .int z), (2, .int (nI i))] → W p l e rm_X5_thin s m args below meth c H locs 0 0 Q (F0 m 14 ls []) := by
    intro n
    induction n with
    | zero =>
      intro i z hfu hi hz
      exact absurd hfu (by omega)
    | succ n ih =>
      intro i z hfu hi hz H locs hW hS ls hl
      refine lv_iload_n hx hb dX5_thin_14 rfl (lv_at hl 2 rfl) ?_
      refine lv_aload_n hx hb dX5_thin_15 rfl (lv_at hl 0 rfl) ?_
      refine k_get (own := RX5) (C := RX5) (T := TX5) (N := 21) hx hb hts hinX5 hown hK hW (kc_9 g ad (set_m_nd (set_m_pm (set_m_l t 0) PV) NV)) rfl 12 (by decide) (hts (.fieldLink RX5 66 "DrillVaultModel" "made" "I") (by decide +kernel)) rfl (v := .int (nI (m_md t))) rfl dX5_thin_16 ?_
      refine k_icmp_ge (tgt := 67) hx hb (a := i) (b := m_md t) (by omega) (by omega) dX5_thin_19 (by decide) (fun h_19 => ?_) (fun h_19 => ?_)
      · have hz2 : z = k_lp (fun k => m_th t k && m_pv t k) (m_on t) (m_md t) := by rw [hz, show i = m_md t by omega]
        refine lv_iconst (v := nI 0) hx hb dX5_thin_67 (by decide) ?_
        refine lv_istore_n (lv' := [(2, .int (nI 0)), (0, .ref (ad 9 0)), (1, .int z)]) hx hb dX5_thin_68 rfl hl (by decide) rfl (fun ls hl => ?_)
        have hloop_69 : ∀ (n : Nat) (i2 : Nat) (Ls : Nat → Bool), (m_md t < i2 + n) → (i2 ≤ m_md t) → (∀ j, Ls j = if (decide (j < i2) && (fun j => decide (j < m_md t)) j) = true then (fun j => m_th t j && (!NV j && decide (nI (m_on t j) < z))) j else m_ls t j) → ∀ (H : Heap) (locs : List Loc), k_H g ad (set_m_ls (set_m_nd (set_m_pm (set_m_l t 0) PV) NV) Ls) H → va_S (k_A g) s.heap H locs → ∀ (ls : Array Slot), lv_has ls 4 [(0, .ref (ad 9 0)), (1, .int z), (2, .int (nI i2))] → W p l e rm_X5_thin s m args below meth c H locs 0 0 Q (F0 m 69 ls []) := by
          intro n
          induction n with
          | zero =>
            intro i2 Ls hfu hi hL
            exact absurd hfu (by omega)
          | succ n ih_69 =>
            intro i2 Ls hfu hi hL H locs hW hS ls hl
            refine lv_iload_n hx hb dX5_thin_69 rfl (lv_at hl 2 rfl) ?_
            refine lv_aload_n hx hb dX5_thin_70 rfl (lv_at hl 0 rfl) ?_
            refine k_get (own := RX5) (C := RX5) (T := TX5) (N := 21) hx hb hts hinX5 hown hK hW (kc_9 g ad (set_m_ls (set_m_nd (set_m_pm (set_m_l t 0) PV) NV) Ls)) rfl 12 (by decide) (hts (.fieldLink RX5 66 "DrillVaultModel" "made" "I") (by decide +kernel)) rfl (v := .int (nI (m_md t))) rfl dX5_thin_71 ?_
            refine k_icmp_ge (tgt := 122) hx hb (a := i2) (b := m_md t) (by omega) (by omega) dX5_thin_74 (by decide) (fun h_74 => ?_) (fun h_74 => ?_)
            · have hLe : Ls = k_L0 (m_md t) (m_th t) NV (m_on t) (m_ls t) z := k_rs_e hL k_lmw (show m_md t ≤ i2 by omega)
              clear hL
              refine lv_aload_n hx hb dX5_thin_122 rfl (lv_at hl 0 rfl) ?_
              refine k_get (own := RX5) (C := RX5) (T := TX5) (N := 21) hx hb hts hinX5 hown hK hW (kc_9 g ad (set_m_ls (set_m_nd (set_m_pm (set_m_l t 0) PV) NV) Ls)) rfl 12 (by decide) (hts (.fieldLink RX5 66 "DrillVaultModel" "made" "I") (by decide +kernel)) rfl (v := .int (nI (m_md t))) rfl dX5_thin_123 ?_
              refine lv_iconst (v := nI 1) hx hb dX5_thin_126 (by decide) ?_
              refine lv_isub hx hb dX5_thin_127 ?_
              refine k_toi (k_m1 _) ?_
              refine lv_istore_n (lv' := [(2, .int (nI (m_md t) + (-1))), (0, .ref (ad 9 0)), (1, .int z)]) hx hb dX5_thin_128 rfl hl (by decide) rfl (fun ls hl => ?_)
              have hloop_129 : ∀ (r : Nat) (Lt : Nat → Bool), (r ≤ m_md t) → (k_hl (m_th t) (m_b t) (m_md t) (fun q => !(Ls q)) = k_hl (m_th t) (m_b t) r (fun q => !(Lt q))) → ∀ (H : Heap) (locs : List Loc), k_H g ad (set_m_ls (set_m_nd (set_m_pm (set_m_l t 0) PV) NV) Lt) H → va_S (k_A g) s.heap H locs → ∀ (ls : Array Slot), lv_has ls 4 [(0, .ref (ad 9 0)), (2, .int (nI r + (-1)))] → W p l e rm_X5_thin s m args below meth c H locs 0 0 Q (F0 m 129 ls []) := by
                intro r
                induction r with
                | zero =>
                  intro Lt hr60 hH H locs hW hS ls hl
                  refine lv_iload_n hx hb dX5_thin_129 rfl (lv_at hl 1 rfl) ?_
                  refine lv_if_lt (tgt := 179) hx hb dX5_thin_130 (by decide) (fun h_130 => ?_) (fun h_130 => absurd k_n0 h_130)
                  have hLf : Lt = k_LS (m_md t) (m_th t) NV (m_b t) (m_on t) (m_ls t) z := funext fun j => by show Lt j = !(k_hl _ _ _ (fun q => !(k_L0 (m_md t) (m_th t) NV (m_on t) (m_ls t) z q)) j); rw [← hLe, hH]; show Lt j = !!(Lt j); rw [Bool.not_not]
                  clear hH hLe
                  refine lv_iconst (v := nI 0) hx hb dX5_thin_179 (by decide) ?_
                  refine lv_istore_n (lv' := [(2, .int (nI 0)), (0, .ref (ad 9 0))]) hx hb dX5_thin_180 rfl hl (by decide) rfl (fun ls hl => ?_)
                  refine lv_iconst (v := nI 0) hx hb dX5_thin_181 (by decide) ?_
                  refine lv_istore_n (lv' := [(3, .int (nI 0)), (2, .int (nI 0)), (0, .ref (ad 9 0))]) hx hb dX5_thin_182 rfl hl (by decide) rfl (fun ls hl => ?_)
                  have hloop_183 : ∀ (n : Nat) (q : Nat) (cn : Nat) (th1 : Nat → Bool), (m_md t < q + n) → (q ≤ m_md t) → (cn = k_sm Lt (fun k => m_sz t k + 1) q) → (∀ j, th1 j = if j < q then (m_th t j && (fun q => !(Lt q)) j) else m_th t j) → ∀ (H : Heap) (locs : List Loc), k_H g ad (set_m_th (set_m_ls (set_m_nd (set_m_pm (set_m_l t 0) PV) NV) Lt) th1) H → va_S (k_A g) s.heap H locs → ∀ (ls : Array Slot), lv_has ls 4 [(0, .ref (ad 9 0)), (2, .int (nI cn)), (3, .int (nI q))] → W p l e rm_X5_thin s m args below meth c H locs 0 0 Q (F0 m 183 ls []) := by
                    intro n
                    induction n with
                    | zero =>
                      intro q cn th1 hfu hi hcn hT
                      exact absurd hfu (by omega)
                    | succ n ih_183 =>
                      intro q cn th1 hfu hi hcn hT H locs hW hS ls hl
                      refine lv_iload_n hx hb dX5_thin_183 rfl (lv_at hl 2 rfl) ?_
                      refine lv_aload_n hx hb dX5_thin_184 rfl (lv_at hl 0 rfl) ?_
                      refine k_get (own := RX5) (C := RX5) (T := TX5) (N := 21) hx hb hts hinX5 hown hK hW (kc_9 g ad (set_m_th (set_m_ls (set_m_nd (set_m_pm (set_m_l t 0) PV) NV) Lt) th1)) rfl 12 (by decide) (hts (.fieldLink RX5 66 "DrillVaultModel" "made" "I") (by decide +kernel)) rfl (v := .int (nI (m_md t))) rfl dX5_thin_185 ?_
                      refine k_icmp_ge (tgt := 250) hx hb (a := q) (b := m_md t) (by omega) (by omega) dX5_thin_188 (by decide) (fun h_188 => ?_) (fun h_188 => ?_)
                      · have hTe : th1 = (fun j => (m_th t) j && !((Lt) j)) := k_th_e hT hmt (show m_md t ≤ q by omega)
                        have hW : k_H g ad (set_m_th (set_m_ls (set_m_nd (set_m_pm (set_m_l t 0) (k_PmM (m_md t) (m_th t) (m_pm t) (m_on t) (m_r1 t) (m_r2 t) (m_r3 t))) (k_NmM (m_md t) (m_nd t) (k_PmM (m_md t) (m_th t) (m_pm t) (m_on t) (m_r1 t) (m_r2 t) (m_r3 t)) (m_b t))) (k_LS (m_md t) (m_th t) (k_NmM (m_md t) (m_nd t) (k_PmM (m_md t) (m_th t) (m_pm t) (m_on t) (m_r1 t) (m_r2 t) (m_r3 t)) (m_b t)) (m_b t) (m_on t) (m_ls t) (k_lp (fun k => (m_th t) k && (m_pv t) k) (m_on t) (m_md t)))) (fun j => (m_th t) j && !((k_LS (m_md t) (m_th t) (k_NmM (m_md t) (m_nd t) (k_PmM (m_md t) (m_th t) (m_pm t) (m_on t) (m_r1 t) (m_r2 t) (m_r3 t)) (m_b t)) (m_b t) (m_on t) (m_ls t) (k_lp (fun k => (m_th t) k && (m_pv t) k) (m_on t) (m_md t))) j))) H := by rw [← hz2, ← hNV, ← hPV, ← hLf, ← hTe]; exact hW
                        refine lv_iload_n hx hb dX5_thin_250 rfl (lv_at hl 1 rfl) ?_
                        exact k_ri hQ hx hb hr hlk hS hW ⟨by rw [hcn, show q = m_md t by omega, hLf, hz2, hNV], rfl⟩ (Nat.le_of_ble_eq_true rfl) (Nat.le_of_ble_eq_true rfl) dX5_thin_251
                      · refine lv_iload_n hx hb dX5_thin_191 rfl (lv_at hl 1 rfl) ?_
                        refine lv_aload_n hx hb dX5_thin_192 rfl (lv_at hl 0 rfl) ?_
                        refine k_get (own := RX5) (C := RX5) (T := TX5) (N := 21) hx hb hts hinX5 hown hK hW (kc_9 g ad (set_m_th (set_m_ls (set_m_nd (set_m_pm (set_m_l t 0) PV) NV) Lt) th1)) rfl 18 (by decide) (hts (.fieldLink RX5 57 "DrillVaultModel" "loose" "[Z") (by decide +kernel)) rfl (v := .ref (ad 22 0)) rfl dX5_thin_193 ?_
                        refine lv_iload_n hx hb dX5_thin_196 rfl (lv_at hl 2 rfl) ?_
                        refine k_zald hx hb hK hW (kc_22 g ad (set_m_th (set_m_ls (set_m_nd (set_m_pm (set_m_l t 0) PV) NV) Lt) th1)) q rfl (by omega) (by decide) dX5_thin_197 ?_
                        refine k_tov (y := .int (kb (Lt q))) rfl ?_
                        refine k_ifz_eq (tgt := 212) hx hb dX5_thin_198 (by decide) (fun h_198 => ?_) (fun h_198 => ?_)
                        · refine lv_iconst (v := nI 0) hx hb dX5_thin_212 (by decide) ?_
                          refine k_iadd hx hb dX5_thin_213 ?_
                          refine lv_istore_n (lv' := [(2, .int (nI (cn + 0))), (0, .ref (ad 9 0)), (3, .int (nI q))]) hx hb dX5_thin_214 rfl hl (by decide) rfl (fun ls hl => ?_)
                          refine lv_aload_n hx hb dX5_thin_215 rfl (lv_at hl 1 rfl) ?_
                          refine k_get (own := RX5) (C := RX5) (T := TX5) (N := 21) hx hb hts hinX5 hown hK hW (kc_9 g ad (set_m_th (set_m_ls (set_m_nd (set_m_pm (set_m_l t 0) PV) NV) Lt) th1)) rfl 9 (by decide) (hts (.fieldLink RX5 31 "DrillVaultModel" "there" "[Z") (by decide +kernel)) rfl (v := .ref (ad 17 0)) rfl dX5_thin_216 ?_
                          refine lv_iload_n hx hb dX5_thin_219 rfl (lv_at hl 2 rfl) ?_
                          refine lv_aload_n hx hb dX5_thin_220 rfl (lv_at hl 1 rfl) ?_
                          refine k_get (own := RX5) (C := RX5) (T := TX5) (N := 21) hx hb hts hinX5 hown hK hW (kc_9 g ad (set_m_th (set_m_ls (set_m_nd (set_m_pm (set_m_l t 0) PV) NV) Lt) th1)) rfl 9 (by decide) (hts (.fieldLink RX5 31 "DrillVaultModel" "there" "[Z") (by decide +kernel)) rfl (v := .ref (ad 17 0)) rfl dX5_thin_221 ?_
                          refine lv_iload_n hx hb dX5_thin_224 rfl (lv_at hl 2 rfl) ?_
                          refine k_zald hx hb hK hW (kc_17 g ad (set_m_th (set_m_ls (set_m_nd (set_m_pm (set_m_l t 0) PV) NV) Lt) th1)) q rfl (by omega) (by decide) dX5_thin_225 ?_
                          refine k_tov (y := .int (kb (th1 q))) rfl ?_
                          refine k_ifz_eq (tgt := 242) hx hb dX5_thin_226 (by decide) (fun h_226 => ?_) (fun h_226 => ?_)
                          · refine lv_iconst (v := nI 0) hx hb dX5_thin_242 (by decide) ?_
                            refine k_zast hx hb hK hW hS (kc_17 g ad (set_m_th (set_m_ls (set_m_nd (set_m_pm (set_m_l t 0) PV) NV) Lt) th1)) rfl q rfl (by omega) (by decide) dX5_thin_243 (fun H locs hW hS => ?_)
                            have hW : k_H g ad (set_m_th (set_m_ls (set_m_nd (set_m_pm (set_m_l t 0) PV) NV) Lt) (va_up th1 q false)) H := kt_m_th (t := set_m_th (set_m_ls (set_m_nd (set_m_pm (set_m_l t 0) PV) NV) Lt) th1) q false rfl hW
                            refine lv_iinc (v := nI (q + 1)) (lv' := [(3, .int (nI (q + 1))), (2, .int (nI (cn + 0))), (0, .ref (ad 9 0))]) hx hb dX5_thin_244 hl (k := 2) rfl (nI_add _ _) (by decide) rfl (fun ls hl => ?_)
                            refine lv_goto (tgt := 183) hx hb dX5_thin_247 (by decide) ?_
                            exact ih_183 (q + 1) (cn + 0) (va_up th1 q false) (by omega) (by omega) (by rw [k_sm_n h_198, hcn, Nat.add_zero]) (k_th_up hT (by show _ = (m_th t q && !(Lt q)); rw [← show th1 q = m_th t q from by rw [hT q, if_neg (Nat.lt_irrefl q)], h_226]; rfl)) _ _ hW hS _ (lv_sub hl [2, 1, 0] rfl)
                          · refine lv_aload_n hx hb dX5_thin_229 rfl (lv_at hl 1 rfl) ?_
                            refine k_get (own := RX5) (C := RX5) (T := TX5) (N := 21) hx hb hts hinX5 hown hK hW (kc_9 g ad (set_m_th (set_m_ls (set_m_nd (set_m_pm (set_m_l t 0) PV) NV) Lt) th1)) rfl 18 (by decide) (hts (.fieldLink RX5 57 "DrillVaultModel" "loose" "[Z") (by decide +kernel)) rfl (v := .ref (ad 22 0)) rfl dX5_thin_230 ?_
                            refine lv_iload_n hx hb dX5_thin_233 rfl (lv_at hl 2 rfl) ?_
                            refine k_zald hx hb hK hW (kc_22 g ad (set_m_th (set_m_ls (set_m_nd (set_m_pm (set_m_l t 0) PV) NV) Lt) th1)) q rfl (by omega) (by decide) dX5_thin_234 ?_
                            refine k_tov (y := .int (kb (Lt q))) rfl ?_
                            refine k_ifz_ne (tgt := 242) hx hb dX5_thin_235 (by decide) (fun h_235 => ?_) (fun h_235 => ?_)
                            · refine lv_iconst (v := nI 0) hx hb dX5_thin_242 (by decide) ?_
                              refine k_zast hx hb hK hW hS (kc_17 g ad (set_m_th (set_m_ls (set_m_nd (set_m_pm (set_m_l t 0) PV) NV) Lt) th1)) rfl q rfl (by omega) (by decide) dX5_thin_243 (fun H locs hW hS => ?_)
                              have hW : k_H g ad (set_m_th (set_m_ls (set_m_nd (set_m_pm (set_m_l t 0) PV) NV) Lt) (va_up th1 q false)) H := kt_m_th (t := set_m_th (set_m_ls (set_m_nd (set_m_pm (set_m_l t 0) PV) NV) Lt) th1) q false rfl hW
                              refine lv_iinc (v := nI (q + 1)) (lv' := [(3, .int (nI (q + 1))), (2, .int (nI (cn + 0))), (0, .ref (ad 9 0))]) hx hb dX5_thin_244 hl (k := 2) rfl (nI_add _ _) (by decide) rfl (fun ls hl => ?_)
                              refine lv_goto (tgt := 183) hx hb dX5_thin_247 (by decide) ?_
                              exact ih_183 (q + 1) (cn + 0) (va_up th1 q false) (by omega) (by omega) (by rw [k_sm_n h_198, hcn, Nat.add_zero]) (k_th_up hT (by show _ = (m_th t q && !(Lt q)); rw [← show th1 q = m_th t q from by rw [hT q, if_neg (Nat.lt_irrefl q)], h_226, h_235]; rfl)) _ _ hW hS _ (lv_sub hl [2, 1, 0] rfl)
                            · refine lv_iconst (v := nI 1) hx hb dX5_thin_238 (by decide) ?_
                              refine lv_goto (tgt := 243) hx hb dX5_thin_239 (by decide) ?_
                              refine k_zast hx hb hK hW hS (kc_17 g ad (set_m_th (set_m_ls (set_m_nd (set_m_pm (set_m_l t 0) PV) NV) Lt) th1)) rfl q rfl (by omega) (by decide) dX5_thin_243 (fun H locs hW hS => ?_)
                              have hW : k_H g ad (set_m_th (set_m_ls (set_m_nd (set_m_pm (set_m_l t 0) PV) NV) Lt) (va_up th1 q true)) H := kt_m_th (t := set_m_th (set_m_ls (set_m_nd (set_m_pm (set_m_l t 0) PV) NV) Lt) th1) q true rfl hW
                              refine lv_iinc (v := nI (q + 1)) (lv' := [(3, .int (nI (q + 1))), (2, .int (nI (cn + 0))), (0, .ref (ad 9 0))]) hx hb dX5_thin_244 hl (k := 2) rfl (nI_add _ _) (by decide) rfl (fun ls hl => ?_)
                              refine lv_goto (tgt := 183) hx hb dX5_thin_247 (by decide) ?_
                              exact ih_183 (q + 1) (cn + 0) (va_up th1 q true) (by omega) (by omega) (by rw [k_sm_n h_198, hcn, Nat.add_zero]) (k_th_up hT (by show _ = (m_th t q && !(Lt q)); rw [← show th1 q = m_th t q from by rw [hT q, if_neg (Nat.lt_irrefl q)], h_226, h_235]; rfl)) _ _ hW hS _ (lv_sub hl [2, 1, 0] rfl)
                        · refine lv_aload_n hx hb dX5_thin_201 rfl (lv_at hl 0 rfl) ?_
                          refine k_get (own := RX5) (C := RX5) (T := TX5) (N := 21) hx hb hts hinX5 hown hK hW (kc_9 g ad (set_m_th (set_m_ls (set_m_nd (set_m_pm (set_m_l t 0) PV) NV) Lt) th1)) rfl 6 (by decide) (hts (.fieldLink RX5 22 "DrillVaultModel" "sizes" "[I") (by decide +kernel)) rfl (v := .ref (ad 14 0)) rfl dX5_thin_202 ?_
                          refine lv_iload_n hx hb dX5_thin_205 rfl (lv_at hl 2 rfl) ?_
                          refine k_iald hx hb hK hW (kc_14 g ad (set_m_th (set_m_ls (set_m_nd (set_m_pm (set_m_l t 0) PV) NV) Lt) th1)) q rfl (by omega) (by decide) dX5_thin_206 ?_
                          refine k_tov (y := .int (nI (m_sz t q))) rfl ?_
                          refine lv_iconst (v := nI 1) hx hb dX5_thin_207 (by decide) ?_
                          refine k_iadd hx hb dX5_thin_208 ?_
                          refine lv_goto (tgt := 213) hx hb dX5_thin_209 (by decide) ?_
                          refine k_iadd hx hb dX5_thin_213 ?_
                          refine lv_istore_n (lv' := [(2, .int (nI (cn + ((m_sz t q) + 1)))), (0, .ref (ad 9 0)), (3, .int (nI q))]) hx hb dX5_thin_214 rfl hl (by decide) rfl (fun ls hl => ?_)
                          refine lv_aload_n hx hb dX5_thin_215 rfl (lv_at hl 1 rfl) ?_
                          refine k_get (own := RX5) (C := RX5) (T := TX5) (N := 21) hx hb hts hinX5 hown hK hW (kc_9 g ad (set_m_th (set_m_ls (set_m_nd (set_m_pm (set_m_l t 0) PV) NV) Lt) th1)) rfl 9 (by decide) (hts (.fieldLink RX5 31 "DrillVaultModel" "there" "[Z") (by decide +kernel)) rfl (v := .ref (ad 17 0)) rfl dX5_thin_216 ?_
                          refine lv_iload_n hx hb dX5_thin_219 rfl (lv_at hl 2 rfl) ?_
                          refine lv_aload_n hx hb dX5_thin_220 rfl (lv_at hl 1 rfl) ?_
                          refine k_get (own := RX5) (C := RX5) (T := TX5) (N := 21) hx hb hts hinX5 hown hK hW (kc_9 g ad (set_m_th (set_m_ls (set_m_nd (set_m_pm (set_m_l t 0) PV) NV) Lt) th1)) rfl 9 (by decide) (hts (.fieldLink RX5 31 "DrillVaultModel" "there" "[Z") (by decide +kernel)) rfl (v := .ref (ad 17 0)) rfl dX5_thin_221 ?_
                          refine lv_iload_n hx hb dX5_thin_224 rfl (lv_at hl 2 rfl) ?_
                          refine k_zald hx hb hK hW (kc_17 g ad (set_m_th (set_m_ls (set_m_nd (set_m_pm (set_m_l t 0) PV) NV) Lt) th1)) q rfl (by omega) (by decide) dX5_thin_225 ?_
                          refine k_tov (y := .int (kb (th1 q))) rfl ?_
                          refine k_ifz_eq (tgt := 242) hx hb dX5_thin_226 (by decide) (fun h_226 => ?_) (fun h_226 => ?_)
                          · refine lv_iconst (v := nI 0) hx hb dX5_thin_242 (by decide) ?_
                            refine k_zast hx hb hK hW hS (kc_17 g ad (set_m_th (set_m_ls (set_m_nd (set_m_pm (set_m_l t 0) PV) NV) Lt) th1)) rfl q rfl (by omega) (by decide) dX5_thin_243 (fun H locs hW hS => ?_)
                            have hW : k_H g ad (set_m_th (set_m_ls (set_m_nd (set_m_pm (set_m_l t 0) PV) NV) Lt) (va_up th1 q false)) H := kt_m_th (t := set_m_th (set_m_ls (set_m_nd (set_m_pm (set_m_l t 0) PV) NV) Lt) th1) q false rfl hW
                            refine lv_iinc (v := nI (q + 1)) (lv' := [(3, .int (nI (q + 1))), (2, .int (nI (cn + ((m_sz t q) + 1)))), (0, .ref (ad 9 0))]) hx hb dX5_thin_244 hl (k := 2) rfl (nI_add _ _) (by decide) rfl (fun ls hl => ?_)
                            refine lv_goto (tgt := 183) hx hb dX5_thin_247 (by decide) ?_
                            exact ih_183 (q + 1) (cn + ((m_sz t q) + 1)) (va_up th1 q false) (by omega) (by omega) (by rw [k_sm_y h_198, hcn]) (k_th_up hT (by show _ = (m_th t q && !(Lt q)); rw [← show th1 q = m_th t q from by rw [hT q, if_neg (Nat.lt_irrefl q)], h_226]; rfl)) _ _ hW hS _ (lv_sub hl [2, 1, 0] rfl)
                          · refine lv_aload_n hx hb dX5_thin_229 rfl (lv_at hl 1 rfl) ?_
                            refine k_get (own := RX5) (C := RX5) (T := TX5) (N := 21) hx hb hts hinX5 hown hK hW (kc_9 g ad (set_m_th (set_m_ls (set_m_nd (set_m_pm (set_m_l t 0) PV) NV) Lt) th1)) rfl 18 (by decide) (hts (.fieldLink RX5 57 "DrillVaultModel" "loose" "[Z") (by decide +kernel)) rfl (v := .ref (ad 22 0)) rfl dX5_thin_230 ?_
                            refine lv_iload_n hx hb dX5_thin_233 rfl (lv_at hl 2 rfl) ?_
                            refine k_zald hx hb hK hW (kc_22 g ad (set_m_th (set_m_ls (set_m_nd (set_m_pm (set_m_l t 0) PV) NV) Lt) th1)) q rfl (by omega) (by decide) dX5_thin_234 ?_
                            refine k_tov (y := .int (kb (Lt q))) rfl ?_
                            refine k_ifz_ne (tgt := 242) hx hb dX5_thin_235 (by decide) (fun h_235 => ?_) (fun h_235 => ?_)
                            · refine lv_iconst (v := nI 0) hx hb dX5_thin_242 (by decide) ?_
                              refine k_zast hx hb hK hW hS (kc_17 g ad (set_m_th (set_m_ls (set_m_nd (set_m_pm (set_m_l t 0) PV) NV) Lt) th1)) rfl q rfl (by omega) (by decide) dX5_thin_243 (fun H locs hW hS => ?_)
                              have hW : k_H g ad (set_m_th (set_m_ls (set_m_nd (set_m_pm (set_m_l t 0) PV) NV) Lt) (va_up th1 q false)) H := kt_m_th (t := set_m_th (set_m_ls (set_m_nd (set_m_pm (set_m_l t 0) PV) NV) Lt) th1) q false rfl hW
                              refine lv_iinc (v := nI (q + 1)) (lv' := [(3, .int (nI (q + 1))), (2, .int (nI (cn + ((m_sz t q) + 1)))), (0, .ref (ad 9 0))]) hx hb dX5_thin_244 hl (k := 2) rfl (nI_add _ _) (by decide) rfl (fun ls hl => ?_)
                              refine lv_goto (tgt := 183) hx hb dX5_thin_247 (by decide) ?_
                              exact ih_183 (q + 1) (cn + ((m_sz t q) + 1)) (va_up th1 q false) (by omega) (by omega) (by rw [k_sm_y h_198, hcn]) (k_th_up hT (by show _ = (m_th t q && !(Lt q)); rw [← show th1 q = m_th t q from by rw [hT q, if_neg (Nat.lt_irrefl q)], h_226, h_235]; rfl)) _ _ hW hS _ (lv_sub hl [2, 1, 0] rfl)
                            · refine lv_iconst (v := nI 1) hx hb dX5_thin_238 (by decide) ?_
                              refine lv_goto (tgt := 243) hx hb dX5_thin_239 (by decide) ?_
                              refine k_zast hx hb hK hW hS (kc_17 g ad (set_m_th (set_m_ls (set_m_nd (set_m_pm (set_m_l t 0) PV) NV) Lt) th1)) rfl q rfl (by omega) (by decide) dX5_thin_243 (fun H locs hW hS => ?_)
                              have hW : k_H g ad (set_m_th (set_m_ls (set_m_nd (set_m_pm (set_m_l t 0) PV) NV) Lt) (va_up th1 q true)) H := kt_m_th (t := set_m_th (set_m_ls (set_m_nd (set_m_pm (set_m_l t 0) PV) NV) Lt) th1) q true rfl hW
                              refine lv_iinc (v := nI (q + 1)) (lv' := [(3, .int (nI (q + 1))), (2, .int (nI (cn + ((m_sz t q) + 1)))), (0, .ref (ad 9 0))]) hx hb dX5_thin_244 hl (k := 2) rfl (nI_add _ _) (by decide) rfl (fun ls hl => ?_)
                              refine lv_goto (tgt := 183) hx hb dX5_thin_247 (by decide) ?_
                              exact ih_183 (q + 1) (cn + ((m_sz t q) + 1)) (va_up th1 q true) (by omega) (by omega) (by rw [k_sm_y h_198, hcn]) (k_th_up hT (by show _ = (m_th t q && !(Lt q)); rw [← show th1 q = m_th t q from by rw [hT q, if_neg (Nat.lt_irrefl q)], h_226, h_235]; rfl)) _ _ hW hS _ (lv_sub hl [2, 1, 0] rfl)
                  exact hloop_183 (m_md t + 1) 0 0 (m_th t) (by omega) (by omega) rfl (fun j => by rw [if_neg (Nat.not_lt_zero j)]) _ _ hW hS _ (lv_sub hl [2, 1, 0] rfl)
                | succ r ih_129 =>
                  intro Lt hr60 hH H locs hW hS ls hl
                  rw [k_dec] at hl
                  refine lv_iload_n hx hb dX5_thin_129 rfl (lv_at hl 1 rfl) ?_
                  refine k_if_lt (tgt := 179) hx hb (by omega) dX5_thin_130 (by decide) ?_
                  refine lv_aload_n hx hb dX5_thin_133 rfl (lv_at hl 0 rfl) ?_
                  refine k_get (own := RX5) (C := RX5) (T := TX5) (N := 21) hx hb hts hinX5 hown hK hW (kc_9 g ad (set_m_ls (set_m_nd (set_m_pm (set_m_l t 0) PV) NV) Lt)) rfl 9 (by decide) (hts (.fieldLink RX5 31 "DrillVaultModel" "there" "[Z") (by decide +kernel)) rfl (v := .ref (ad 17 0)) rfl dX5_thin_134 ?_
                  refine lv_iload_n hx hb dX5_thin_137 rfl (lv_at hl 1 rfl) ?_
                  refine k_zald hx hb hK hW (kc_17 g ad (set_m_ls (set_m_nd (set_m_pm (set_m_l t 0) PV) NV) Lt)) r rfl (by omega) (by decide) dX5_thin_138 ?_
                  refine k_tov (y := .int (kb (m_th t r))) rfl ?_
                  refine k_ifz_eq (tgt := 173) hx hb dX5_thin_139 (by decide) (fun h_139 => ?_) (fun h_139 => ?_)
                  · refine lv_iinc (v := nI r + (-1)) (lv' := [(2, .int (nI r + (-1))), (0, .ref (ad 9 0))]) hx hb dX5_thin_173 hl (k := 1) rfl rfl (by decide) rfl (fun ls hl => ?_)
                    refine lv_goto (tgt := 129) hx hb dX5_thin_176 (by decide) ?_
                    exact ih_129 Lt (by omega) (hH.trans (k_hl_n (fun q => by have h9 := h_139.symm.trans q.1; cases h9))) _ _ hW hS _ (lv_sub hl [1, 0] rfl)
                  · refine lv_aload_n hx hb dX5_thin_142 rfl (lv_at hl 0 rfl) ?_
                    refine k_get (own := RX5) (C := RX5) (T := TX5) (N := 21) hx hb hts hinX5 hown hK hW (kc_9 g ad (set_m_ls (set_m_nd (set_m_pm (set_m_l t 0) PV) NV) Lt)) rfl 18 (by decide) (hts (.fieldLink RX5 57 "DrillVaultModel" "loose" "[Z") (by decide +kernel)) rfl (v := .ref (ad 22 0)) rfl dX5_thin_143 ?_
                    refine lv_iload_n hx hb dX5_thin_146 rfl (lv_at hl 1 rfl) ?_
                    refine k_zald hx hb hK hW (kc_22 g ad (set_m_ls (set_m_nd (set_m_pm (set_m_l t 0) PV) NV) Lt)) r rfl (by omega) (by decide) dX5_thin_147 ?_
                    refine k_tov (y := .int (kb (Lt r))) rfl ?_
                    refine k_ifz_ne (tgt := 173) hx hb dX5_thin_148 (by decide) (fun h_148 => ?_) (fun h_148 => ?_)
                    · refine lv_iinc (v := nI r + (-1)) (lv' := [(2, .int (nI r + (-1))), (0, .ref (ad 9 0))]) hx hb dX5_thin_173 hl (k := 1) rfl rfl (by decide) rfl (fun ls hl => ?_)
                      refine lv_goto (tgt := 129) hx hb dX5_thin_176 (by decide) ?_
                      exact ih_129 Lt (by omega) (hH.trans (k_hl_n (fun q => by have h9 := q.2; rw [h_148] at h9; cases h9))) _ _ hW hS _ (lv_sub hl [1, 0] rfl)
                    · rcases hob_151 : m_b t r with _ | b_151
                      · refine lv_aload_n hx hb dX5_thin_151 rfl (lv_at hl 0 rfl) ?_
                        refine k_get (own := RX5) (C := RX5) (T := TX5) (N := 21) hx hb hts hinX5 hown hK hW (kc_9 g ad (set_m_ls (set_m_nd (set_m_pm (set_m_l t 0) PV) NV) Lt)) rfl 5 (by decide) (hts (.fieldLink RX5 19 "DrillVaultModel" "bases" "[I") (by decide +kernel)) rfl (v := .ref (ad 13 0)) rfl dX5_thin_152 ?_
                        refine lv_iload_n hx hb dX5_thin_155 rfl (lv_at hl 1 rfl) ?_
                        refine k_iald hx hb hK hW (kc_13 g ad (set_m_ls (set_m_nd (set_m_pm (set_m_l t 0) PV) NV) Lt)) r rfl (by omega) (by decide) dX5_thin_156 ?_
                        refine k_tov (y := .int (kO (m_b t r))) rfl ?_
                        refine lv_iconst (v := (-1)) hx hb dX5_thin_157 (by decide) ?_
                        refine lv_icmp_eq (tgt := 173) hx hb dX5_thin_158 (by decide) (fun h_158 => ?_) (fun h_158 => absurd h_158 (by first | exact (fun q => q (by rw [hob_151]; rfl)) | (rw [hob_151]; exact k_nm1 (by omega))))
                        refine lv_iinc (v := nI r + (-1)) (lv' := [(2, .int (nI r + (-1))), (0, .ref (ad 9 0))]) hx hb dX5_thin_173 hl (k := 1) rfl rfl (by decide) rfl (fun ls hl => ?_)
                        refine lv_goto (tgt := 129) hx hb dX5_thin_176 (by decide) ?_
                        exact ih_129 Lt (by omega) (hH.trans (k_hl_z hob_151)) _ _ hW hS _ (lv_sub hl [1, 0] rfl)
                      · have hb9 := hmb _ _ (show r < m_md t by omega) hob_151
                        refine lv_aload_n hx hb dX5_thin_151 rfl (lv_at hl 0 rfl) ?_
                        refine k_get (own := RX5) (C := RX5) (T := TX5) (N := 21) hx hb hts hinX5 hown hK hW (kc_9 g ad (set_m_ls (set_m_nd (set_m_pm (set_m_l t 0) PV) NV) Lt)) rfl 5 (by decide) (hts (.fieldLink RX5 19 "DrillVaultModel" "bases" "[I") (by decide +kernel)) rfl (v := .ref (ad 13 0)) rfl dX5_thin_152 ?_
                        refine lv_iload_n hx hb dX5_thin_155 rfl (lv_at hl 1 rfl) ?_
                        refine k_iald hx hb hK hW (kc_13 g ad (set_m_ls (set_m_nd (set_m_pm (set_m_l t 0) PV) NV) Lt)) r rfl (by omega) (by decide) dX5_thin_156 ?_
                        refine k_tov (y := .int (kO (m_b t r))) rfl ?_
                        refine lv_iconst (v := (-1)) hx hb dX5_thin_157 (by decide) ?_
                        refine lv_icmp_eq (tgt := 173) hx hb dX5_thin_158 (by decide) (fun h_158 => absurd h_158 (by first | exact (fun q => q (by rw [hob_151]; rfl)) | (rw [hob_151]; exact k_nm1 (by omega)))) (fun h_158 => ?_)
                        refine lv_aload_n hx hb dX5_thin_161 rfl (lv_at hl 0 rfl) ?_
                        refine k_get (own := RX5) (C := RX5) (T := TX5) (N := 21) hx hb hts hinX5 hown hK hW (kc_9 g ad (set_m_ls (set_m_nd (set_m_pm (set_m_l t 0) PV) NV) Lt)) rfl 18 (by decide) (hts (.fieldLink RX5 57 "DrillVaultModel" "loose" "[Z") (by decide +kernel)) rfl (v := .ref (ad 22 0)) rfl dX5_thin_162 ?_
                        refine lv_aload_n hx hb dX5_thin_165 rfl (lv_at hl 0 rfl) ?_
                        refine k_get (own := RX5) (C := RX5) (T := TX5) (N := 21) hx hb hts hinX5 hown hK hW (kc_9 g ad (set_m_ls (set_m_nd (set_m_pm (set_m_l t 0) PV) NV) Lt)) rfl 5 (by decide) (hts (.fieldLink RX5 19 "DrillVaultModel" "bases" "[I") (by decide +kernel)) rfl (v := .ref (ad 13 0)) rfl dX5_thin_166 ?_
                        refine lv_iload_n hx hb dX5_thin_169 rfl (lv_at hl 1 rfl) ?_
                        refine k_iald hx hb hK hW (kc_13 g ad (set_m_ls (set_m_nd (set_m_pm (set_m_l t 0) PV) NV) Lt)) r rfl (by omega) (by decide) dX5_thin_170 ?_
                        refine k_tov (y := .int (kO (m_b t r))) rfl ?_
                        refine lv_iconst (v := nI 0) hx hb dX5_thin_171 (by decide) ?_
                        refine k_zast hx hb hK hW hS (kc_22 g ad (set_m_ls (set_m_nd (set_m_pm (set_m_l t 0) PV) NV) Lt)) rfl b_151 (by rw [hob_151]; rfl) (by omega) (by decide) dX5_thin_172 (fun H locs hW hS => ?_)
                        have hW : k_H g ad (set_m_ls (set_m_nd (set_m_pm (set_m_l t 0) PV) NV) (va_up Lt b_151 false)) H := kt_m_ls (t := set_m_ls (set_m_nd (set_m_pm (set_m_l t 0) PV) NV) Lt) b_151 false rfl hW
                        refine lv_iinc (v := nI r + (-1)) (lv' := [(2, .int (nI r + (-1))), (0, .ref (ad 9 0))]) hx hb dX5_thin_173 hl (k := 1) rfl rfl (by decide) rfl (fun ls hl => ?_)
                        refine lv_goto (tgt := 129) hx hb dX5_thin_176 (by decide) ?_
                        exact ih_129 (va_up Lt b_151 false) (by omega) (by rw [k_nup]; exact hH.trans (k_hl_y h_139 (show (!(Lt r)) = true by rw [h_148]; rfl) hob_151)) _ _ hW hS _ (lv_sub hl [1, 0] rfl)
              exact hloop_129 (m_md t) Ls (Nat.le_refl _) rfl _ _ hW hS _ (lv_sub hl [1, 0] rfl)
            · refine lv_aload_n hx hb dX5_thin_77 rfl (lv_at hl 0 rfl) ?_
              refine k_get (own := RX5) (C := RX5) (T := TX5) (N := 21) hx hb hts hinX5 hown hK hW (kc_9 g ad (set_m_ls (set_m_nd (set_m_pm (set_m_l t 0) PV) NV) Ls)) rfl 18 (by decide) (hts (.fieldLink RX5 57 "DrillVaultModel" "loose" "[Z") (by decide +kernel)) rfl (v := .ref (ad 22 0)) rfl dX5_thin_78 ?_
              refine lv_iload_n hx hb dX5_thin_81 rfl (lv_at hl 2 rfl) ?_
              refine lv_aload_n hx hb dX5_thin_82 rfl (lv_at hl 0 rfl) ?_
              refine k_get (own := RX5) (C := RX5) (T := TX5) (N := 21) hx hb hts hinX5 hown hK hW (kc_9 g ad (set_m_ls (set_m_nd (set_m_pm (set_m_l t 0) PV) NV) Ls)) rfl 9 (by decide) (hts (.fieldLink RX5 31 "DrillVaultModel" "there" "[Z") (by decide +kernel)) rfl (v := .ref (ad 17 0)) rfl dX5_thin_83 ?_
              refine lv_iload_n hx hb dX5_thin_86 rfl (lv_at hl 2 rfl) ?_
              refine k_zald hx hb hK hW (kc_17 g ad (set_m_ls (set_m_nd (set_m_pm (set_m_l t 0) PV) NV) Ls)) i2 rfl (by omega) (by decide) dX5_thin_87 ?_
              refine k_tov (y := .int (kb (m_th t i2))) rfl ?_
              refine k_ifz_eq (tgt := 114) hx hb dX5_thin_88 (by decide) (fun h_88 => ?_) (fun h_88 => ?_)
              · refine lv_iconst (v := nI 0) hx hb dX5_thin_114 (by decide) ?_
                refine k_zast hx hb hK hW hS (kc_22 g ad (set_m_ls (set_m_nd (set_m_pm (set_m_l t 0) PV) NV) Ls)) rfl i2 rfl (by omega) (by decide) dX5_thin_115 (fun H locs hW hS => ?_)
                have hW : k_H g ad (set_m_ls (set_m_nd (set_m_pm (set_m_l t 0) PV) NV) (va_up Ls i2 false)) H := kt_m_ls (t := set_m_ls (set_m_nd (set_m_pm (set_m_l t 0) PV) NV) Ls) i2 false rfl hW
                refine lv_iinc (v := nI (i2 + 1)) (lv' := [(2, .int (nI (i2 + 1))), (0, .ref (ad 9 0)), (1, .int z)]) hx hb dX5_thin_116 hl (k := 2) rfl (nI_add _ _) (by decide) rfl (fun ls hl => ?_)
                refine lv_goto (tgt := 69) hx hb dX5_thin_119 (by decide) ?_
                exact ih_69 (i2 + 1) (va_up Ls i2 false) (by omega) (by omega) (k_rs hL (k_lm h_74) (show (m_th t i2 && (!NV i2 && decide (nI (m_on t i2) < z))) = false by rw [h_88]; rfl)) _ _ hW hS _ (lv_sub hl [1, 2, 0] rfl)
              · refine lv_aload_n hx hb dX5_thin_91 rfl (lv_at hl 0 rfl) ?_
                refine k_get (own := RX5) (C := RX5) (T := TX5) (N := 21) hx hb hts hinX5 hown hK hW (kc_9 g ad (set_m_ls (set_m_nd (set_m_pm (set_m_l t 0) PV) NV) Ls)) rfl 17 (by decide) (hts (.fieldLink RX5 54 "DrillVaultModel" "needed" "[Z") (by decide +kernel)) rfl (v := .ref (ad 21 0)) rfl dX5_thin_92 ?_
                refine lv_iload_n hx hb dX5_thin_95 rfl (lv_at hl 2 rfl) ?_
                refine k_zald hx hb hK hW (kc_21 g ad (set_m_ls (set_m_nd (set_m_pm (set_m_l t 0) PV) NV) Ls)) i2 rfl (by omega) (by decide) dX5_thin_96 ?_
                refine k_tov (y := .int (kb (NV i2))) rfl ?_
                refine k_ifz_ne (tgt := 114) hx hb dX5_thin_97 (by decide) (fun h_97 => ?_) (fun h_97 => ?_)
                · refine lv_iconst (v := nI 0) hx hb dX5_thin_114 (by decide) ?_
                  refine k_zast hx hb hK hW hS (kc_22 g ad (set_m_ls (set_m_nd (set_m_pm (set_m_l t 0) PV) NV) Ls)) rfl i2 rfl (by omega) (by decide) dX5_thin_115 (fun H locs hW hS => ?_)
                  have hW : k_H g ad (set_m_ls (set_m_nd (set_m_pm (set_m_l t 0) PV) NV) (va_up Ls i2 false)) H := kt_m_ls (t := set_m_ls (set_m_nd (set_m_pm (set_m_l t 0) PV) NV) Ls) i2 false rfl hW
                  refine lv_iinc (v := nI (i2 + 1)) (lv' := [(2, .int (nI (i2 + 1))), (0, .ref (ad 9 0)), (1, .int z)]) hx hb dX5_thin_116 hl (k := 2) rfl (nI_add _ _) (by decide) rfl (fun ls hl => ?_)
                  refine lv_goto (tgt := 69) hx hb dX5_thin_119 (by decide) ?_
                  exact ih_69 (i2 + 1) (va_up Ls i2 false) (by omega) (by omega) (k_rs hL (k_lm h_74) (show (m_th t i2 && (!NV i2 && decide (nI (m_on t i2) < z))) = false by rw [h_88, h_97]; rfl)) _ _ hW hS _ (lv_sub hl [1, 2, 0] rfl)
                · refine lv_aload_n hx hb dX5_thin_100 rfl (lv_at hl 0 rfl) ?_
                  refine k_get (own := RX5) (C := RX5) (T := TX5) (N := 21) hx hb hts hinX5 hown hK hW (kc_9 g ad (set_m_ls (set_m_nd (set_m_pm (set_m_l t 0) PV) NV) Ls)) rfl 4 (by decide) (hts (.fieldLink RX5 16 "DrillVaultModel" "days" "[I") (by decide +kernel)) rfl (v := .ref (ad 12 0)) rfl dX5_thin_101 ?_
                  refine lv_iload_n hx hb dX5_thin_104 rfl (lv_at hl 2 rfl) ?_
                  refine k_iald hx hb hK hW (kc_12 g ad (set_m_ls (set_m_nd (set_m_pm (set_m_l t 0) PV) NV) Ls)) i2 rfl (by omega) (by decide) dX5_thin_105 ?_
                  refine k_tov (y := .int (nI (m_on t i2))) rfl ?_
                  refine lv_iload_n hx hb dX5_thin_106 rfl (lv_at hl 1 rfl) ?_
                  refine lv_icmp_ge (tgt := 114) hx hb dX5_thin_107 (by decide) (fun h_107 => ?_) (fun h_107 => ?_)
                  · refine lv_iconst (v := nI 0) hx hb dX5_thin_114 (by decide) ?_
                    refine k_zast hx hb hK hW hS (kc_22 g ad (set_m_ls (set_m_nd (set_m_pm (set_m_l t 0) PV) NV) Ls)) rfl i2 rfl (by omega) (by decide) dX5_thin_115 (fun H locs hW hS => ?_)
                    have hW : k_H g ad (set_m_ls (set_m_nd (set_m_pm (set_m_l t 0) PV) NV) (va_up Ls i2 false)) H := kt_m_ls (t := set_m_ls (set_m_nd (set_m_pm (set_m_l t 0) PV) NV) Ls) i2 false rfl hW
                    refine lv_iinc (v := nI (i2 + 1)) (lv' := [(2, .int (nI (i2 + 1))), (0, .ref (ad 9 0)), (1, .int z)]) hx hb dX5_thin_116 hl (k := 2) rfl (nI_add _ _) (by decide) rfl (fun ls hl => ?_)
                    refine lv_goto (tgt := 69) hx hb dX5_thin_119 (by decide) ?_
                    exact ih_69 (i2 + 1) (va_up Ls i2 false) (by omega) (by omega) (k_rs hL (k_lm h_74) (show (m_th t i2 && (!NV i2 && decide (nI (m_on t i2) < z))) = false by rw [h_88, h_97, decide_eq_false (Int32.not_lt.mpr h_107)]; rfl)) _ _ hW hS _ (lv_sub hl [1, 2, 0] rfl)
                  · refine lv_iconst (v := nI 1) hx hb dX5_thin_110 (by decide) ?_
                    refine lv_goto (tgt := 115) hx hb dX5_thin_111 (by decide) ?_
                    refine k_zast hx hb hK hW hS (kc_22 g ad (set_m_ls (set_m_nd (set_m_pm (set_m_l t 0) PV) NV) Ls)) rfl i2 rfl (by omega) (by decide) dX5_thin_115 (fun H locs hW hS => ?_)
                    have hW : k_H g ad (set_m_ls (set_m_nd (set_m_pm (set_m_l t 0) PV) NV) (va_up Ls i2 true)) H := kt_m_ls (t := set_m_ls (set_m_nd (set_m_pm (set_m_l t 0) PV) NV) Ls) i2 true rfl hW
                    refine lv_iinc (v := nI (i2 + 1)) (lv' := [(2, .int (nI (i2 + 1))), (0, .ref (ad 9 0)), (1, .int z)]) hx hb dX5_thin_116 hl (k := 2) rfl (nI_add _ _) (by decide) rfl (fun ls hl => ?_)
                    refine lv_goto (tgt := 69) hx hb dX5_thin_119 (by decide) ?_
                    exact ih_69 (i2 + 1) (va_up Ls i2 true) (by omega) (by omega) (k_rs hL (k_lm h_74) (show (m_th t i2 && (!NV i2 && decide (nI (m_on t i2) < z))) = true by rw [h_88, h_97, decide_eq_true (Int32.not_le.mp h_107)]; rfl)) _ _ hW hS _ (lv_sub hl [1, 2, 0] rfl)
        exact hloop_69 (m_md t + 1) 0 (m_ls t) (by omega) (by omega) k_rs_0 _ _ hW hS _ (lv_sub hl [1, 2, 0] rfl)
      · refine lv_aload_n hx hb dX5_thin_22 rfl (lv_at hl 0 rfl) ?_
        refine k_get (own := RX5) (C := RX5) (T := TX5) (N := 21) hx hb hts hinX5 hown hK hW (kc_9 g ad (set_m_nd (set_m_pm (set_m_l t 0) PV) NV)) rfl 9 (by decide) (hts (.fieldLink RX5 31 "DrillVaultModel" "there" "[Z") (by decide +kernel)) rfl (v := .ref (ad 17 0)) rfl dX5_thin_23 ?_
        refine lv_iload_n hx hb dX5_thin_26 rfl (lv_at hl 2 rfl) ?_
        refine k_zald hx hb hK hW (kc_17 g ad (set_m_nd (set_m_pm (set_m_l t 0) PV) NV)) i rfl (by omega) (by decide) dX5_thin_27 ?_
        refine k_tov (y := .int (kb (m_th t i))) rfl ?_
        refine k_ifz_eq (tgt := 59) hx hb dX5_thin_28 (by decide) (fun h_28 => ?_) (fun h_28 => ?_)
        · refine lv_iload_n hx hb dX5_thin_59 rfl (lv_at hl 1 rfl) ?_
          refine lv_istore_n (lv' := [(1, .int z), (0, .ref (ad 9 0)), (2, .int (nI i))]) hx hb dX5_thin_60 rfl hl (by decide) rfl (fun ls hl => ?_)
          refine lv_iinc (v := nI (i + 1)) (lv' := [(2, .int (nI (i + 1))), (1, .int z), (0, .ref (ad 9 0))]) hx hb dX5_thin_61 hl (k := 2) rfl (nI_add _ _) (by decide) rfl (fun ls hl => ?_)
          refine lv_goto (tgt := 14) hx hb dX5_thin_64 (by decide) ?_
          exact ih (i + 1) z (by omega) (by omega) (by rw [k_lp_n (show (m_th t i && m_pv t i) = false by rw [h_28]; rfl)]; exact hz) _ _ hW hS _ (lv_sub hl [2, 1, 0] rfl)
        · refine lv_aload_n hx hb dX5_thin_31 rfl (lv_at hl 0 rfl) ?_
          refine k_get (own := RX5) (C := RX5) (T := TX5) (N := 21) hx hb hts hinX5 hown hK hW (kc_9 g ad (set_m_nd (set_m_pm (set_m_l t 0) PV) NV)) rfl 11 (by decide) (hts (.fieldLink RX5 38 "DrillVaultModel" "proved" "[Z") (by decide +kernel)) rfl (v := .ref (ad 19 0)) rfl dX5_thin_32 ?_
          refine lv_iload_n hx hb dX5_thin_35 rfl (lv_at hl 2 rfl) ?_
          refine k_zald hx hb hK hW (kc_19 g ad (set_m_nd (set_m_pm (set_m_l t 0) PV) NV)) i rfl (by omega) (by decide) dX5_thin_36 ?_
          refine k_tov (y := .int (kb (m_pv t i))) rfl ?_
          refine k_ifz_eq (tgt := 59) hx hb dX5_thin_37 (by decide) (fun h_37 => ?_) (fun h_37 => ?_)
          · refine lv_iload_n hx hb dX5_thin_59 rfl (lv_at hl 1 rfl) ?_
            refine lv_istore_n (lv' := [(1, .int z), (0, .ref (ad 9 0)), (2, .int (nI i))]) hx hb dX5_thin_60 rfl hl (by decide) rfl (fun ls hl => ?_)
            refine lv_iinc (v := nI (i + 1)) (lv' := [(2, .int (nI (i + 1))), (1, .int z), (0, .ref (ad 9 0))]) hx hb dX5_thin_61 hl (k := 2) rfl (nI_add _ _) (by decide) rfl (fun ls hl => ?_)
            refine lv_goto (tgt := 14) hx hb dX5_thin_64 (by decide) ?_
            exact ih (i + 1) z (by omega) (by omega) (by rw [k_lp_n (show (m_th t i && m_pv t i) = false by rw [h_28, h_37]; rfl)]; exact hz) _ _ hW hS _ (lv_sub hl [2, 1, 0] rfl)
          · refine lv_aload_n hx hb dX5_thin_40 rfl (lv_at hl 0 rfl) ?_
            refine k_get (own := RX5) (C := RX5) (T := TX5) (N := 21) hx hb hts hinX5 hown hK hW (kc_9 g ad (set_m_nd (set_m_pm (set_m_l t 0) PV) NV)) rfl 4 (by decide) (hts (.fieldLink RX5 16 "DrillVaultModel" "days" "[I") (by decide +kernel)) rfl (v := .ref (ad 12 0)) rfl dX5_thin_41 ?_
            refine lv_iload_n hx hb dX5_thin_44 rfl (lv_at hl 2 rfl) ?_
            refine k_iald hx hb hK hW (kc_12 g ad (set_m_nd (set_m_pm (set_m_l t 0) PV) NV)) i rfl (by omega) (by decide) dX5_thin_45 ?_
            refine k_tov (y := .int (nI (m_on t i))) rfl ?_
            refine lv_iload_n hx hb dX5_thin_46 rfl (lv_at hl 1 rfl) ?_
            refine lv_icmp_le (tgt := 59) hx hb dX5_thin_47 (by decide) (fun h_47 => ?_) (fun h_47 => ?_)
            · refine lv_iload_n hx hb dX5_thin_59 rfl (lv_at hl 1 rfl) ?_
              refine lv_istore_n (lv' := [(1, .int z), (0, .ref (ad 9 0)), (2, .int (nI i))]) hx hb dX5_thin_60 rfl hl (by decide) rfl (fun ls hl => ?_)
              refine lv_iinc (v := nI (i + 1)) (lv' := [(2, .int (nI (i + 1))), (1, .int z), (0, .ref (ad 9 0))]) hx hb dX5_thin_61 hl (k := 2) rfl (nI_add _ _) (by decide) rfl (fun ls hl => ?_)
              refine lv_goto (tgt := 14) hx hb dX5_thin_64 (by decide) ?_
              exact ih (i + 1) z (by omega) (by omega) (by rw [k_lp_y (show (m_th t i && m_pv t i) = true by rw [h_28, h_37]; rfl), ← hz, if_neg (Int32.not_lt.mpr h_47)]) _ _ hW hS _ (lv_sub hl [2, 1, 0] rfl)
            · refine lv_aload_n hx hb dX5_thin_50 rfl (lv_at hl 0 rfl) ?_
              refine k_get (own := RX5) (C := RX5) (T := TX5) (N := 21) hx hb hts hinX5 hown hK hW (kc_9 g ad (set_m_nd (set_m_pm (set_m_l t 0) PV) NV)) rfl 4 (by decide) (hts (.fieldLink RX5 16 "DrillVaultModel" "days" "[I") (by decide +kernel)) rfl (v := .ref (ad 12 0)) rfl dX5_thin_51 ?_
              refine lv_iload_n hx hb dX5_thin_54 rfl (lv_at hl 2 rfl) ?_
              refine k_iald hx hb hK hW (kc_12 g ad (set_m_nd (set_m_pm (set_m_l t 0) PV) NV)) i rfl (by omega) (by decide) dX5_thin_55 ?_
              refine k_tov (y := .int (nI (m_on t i))) rfl ?_
              refine lv_goto (tgt := 60) hx hb dX5_thin_56 (by decide) ?_
              refine lv_istore_n (lv' := [(1, .int (nI (m_on t i))), (0, .ref (ad 9 0)), (2, .int (nI i))]) hx hb dX5_thin_60 rfl hl (by decide) rfl (fun ls hl => ?_)
              refine lv_iinc (v := nI (i + 1)) (lv' := [(2, .int (nI (i + 1))), (1, .int (nI (m_on t i))), (0, .ref (ad 9 0))]) hx hb dX5_thin_61 hl (k := 2) rfl (nI_add _ _) (by decide) rfl (fun ls hl => ?_)
              refine lv_goto (tgt := 14) hx hb dX5_thin_64 (by decide) ?_
              exact ih (i + 1) (nI (m_on t i)) (by omega) (by omega) (by rw [k_lp_y (show (m_th t i && m_pv t i) = true by rw [h_28, h_37]; rfl), ← hz, if_pos (Int32.not_le.mp h_47)]) _ _ hW hS _ (lv_sub hl [2, 1, 0] rfl)
  exact hloop_14 (m_md t + 1) 0 (-1) (by omega) (by omega) rfl _ _ hW hS _ (lv_sub hl [2, 1, 0] rfl)
