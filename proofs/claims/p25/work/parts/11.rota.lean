abbrev rm_X2_personOn : Room := { frames := 0, cells := 0, slots := 0, locals := 0 }
set_option maxRecDepth 100000 in
set_option maxHeartbeats 4000000 in
theorem c_X2_personOn (l : Launch) (hlt : l.stackTraces = false) (g : k_g) (ad : k_AD) (t : k_T) (j : Nat) (hj : j < 365) : Met l yX2_personOn wsX2_personOn rm_X2_personOn (va_Pc [.ref (ad 7 0), .int (nI j)] (k_I g (k_ct g ad t) ad)) (va_Qi (fun r u => r = nI (r_p t j) ∧ u = t) (fun u U => k_H g ad u U.heap) (k_A g)) 0 0 (k_A g) := by
  refine k_met (cc := cX2_personOn) (maxL := 2) (ret := (some .int)) (by decide) rfl (Nat.le_of_ble_eq_true rfl) (fun p e s m args below meth c Q ls hQ hx hb hr hml hts hown hlk hin hK hZ hN hW hS hl => ?_)
  have hown : s.vm.findClass RX2 = some m.cls := hown
  have hW : k_H g ad t s.heap := hW
  have hl : lv_has ls 2 [(0, .ref (ad 7 0)), (1, .int (nI j))] := hl
  have hinX2 : ∀ w ∈ wsX20, w ∈ wsX2_personOn := by decide +kernel
  refine lv_iload_n hx hb dX2_personOn_0 rfl (lv_at hl 1 rfl) ?_
  refine k_if_lt (tgt := 22) hx hb (by omega) dX2_personOn_1 (by decide) ?_
  refine lv_iload_n hx hb dX2_personOn_4 rfl (lv_at hl 1 rfl) ?_
  refine lv_aload_n hx hb dX2_personOn_5 rfl (lv_at hl 0 rfl) ?_
  refine k_get (own := RX2) (C := RX2) (T := TX2) (N := 1) hx hb hts hinX2 hown hK hW (kc_7 g ad t) rfl 0 (by decide) (hts (.fieldLink RX2 9 "DrillVault$Rota" "persons" "[I") (by decide +kernel)) rfl (v := .ref (ad 8 0)) rfl dX2_personOn_6 ?_
  refine k_alen hx hb hK hW 0 rfl (kc_8 g ad t) (v := nI 365) rfl dX2_personOn_9 ?_
  refine k_icmp_ge (tgt := 22) hx hb (a := j) (b := 365) (by omega) (by decide) dX2_personOn_10 (by decide) (fun h_10 => absurd h_10 (by omega)) (fun h_10 => ?_)
  refine lv_aload_n hx hb dX2_personOn_13 rfl (lv_at hl 0 rfl) ?_
  refine k_get (own := RX2) (C := RX2) (T := TX2) (N := 1) hx hb hts hinX2 hown hK hW (kc_7 g ad t) rfl 0 (by decide) (hts (.fieldLink RX2 9 "DrillVault$Rota" "persons" "[I") (by decide +kernel)) rfl (v := .ref (ad 8 0)) rfl dX2_personOn_14 ?_
  refine lv_iload_n hx hb dX2_personOn_17 rfl (lv_at hl 1 rfl) ?_
  refine k_iald hx hb hK hW (kc_8 g ad t) j rfl (by omega) (by decide) dX2_personOn_18 ?_
  refine lv_goto (tgt := 23) hx hb dX2_personOn_19 (by decide) ?_
  exact k_ri hQ hx hb hr hlk hS hW ⟨rfl, rfl⟩ (Nat.le_of_ble_eq_true rfl) (Nat.le_of_ble_eq_true rfl) dX2_personOn_23
set_option maxRecDepth 100000 in
set_option maxHeartbeats 4000000 in
theorem c_X2_personOn_lo (l : Launch) (hlt : l.stackTraces = false) (g : k_g) (ad : k_AD) (t : k_T) (z : Int32) (hz : z < 0) : Met l yX2_personOn wsX2_personOn rm_X2_personOn (va_Pc [.ref (ad 7 0), .int z] (k_I g (k_ct g ad t) ad)) (va_Qi (fun r u => r = (-1) ∧ u = t) (fun u U => k_H g ad u U.heap) (k_A g)) 0 0 (k_A g) := by
  refine k_met (cc := cX2_personOn) (maxL := 2) (ret := (some .int)) (by decide) rfl (Nat.le_of_ble_eq_true rfl) (fun p e s m args below meth c Q ls hQ hx hb hr hml hts hown hlk hin hK hZ hN hW hS hl => ?_)
  have hown : s.vm.findClass RX2 = some m.cls := hown
  have hW : k_H g ad t s.heap := hW
  have hl : lv_has ls 2 [(0, .ref (ad 7 0)), (1, .int z)] := hl
  refine lv_iload_n hx hb dX2_personOn_0 rfl (lv_at hl 1 rfl) ?_
  refine lv_if_lt (tgt := 22) hx hb dX2_personOn_1 (by decide) (fun h_1 => ?_) (fun h_1 => absurd h_1 (fun q => q hz))
  refine lv_iconst (v := (-1)) hx hb dX2_personOn_22 (by decide) ?_
  exact k_ri hQ hx hb hr hlk hS hW ⟨rfl, rfl⟩ (Nat.le_of_ble_eq_true rfl) (Nat.le_of_ble_eq_true rfl) dX2_personOn_23
set_option maxRecDepth 100000 in
set_option maxHeartbeats 4000000 in
theorem c_X2_personOn_hi (l : Launch) (hlt : l.stackTraces = false) (g : k_g) (ad : k_AD) (t : k_T) (j : Nat) (hj : 365 ≤ j) (hj2 : j < 1000) : Met l yX2_personOn wsX2_personOn rm_X2_personOn (va_Pc [.ref (ad 7 0), .int (nI j)] (k_I g (k_ct g ad t) ad)) (va_Qi (fun r u => r = (-1) ∧ u = t) (fun u U => k_H g ad u U.heap) (k_A g)) 0 0 (k_A g) := by
  refine k_met (cc := cX2_personOn) (maxL := 2) (ret := (some .int)) (by decide) rfl (Nat.le_of_ble_eq_true rfl) (fun p e s m args below meth c Q ls hQ hx hb hr hml hts hown hlk hin hK hZ hN hW hS hl => ?_)
  have hown : s.vm.findClass RX2 = some m.cls := hown
  have hW : k_H g ad t s.heap := hW
  have hl : lv_has ls 2 [(0, .ref (ad 7 0)), (1, .int (nI j))] := hl
  have hinX2 : ∀ w ∈ wsX20, w ∈ wsX2_personOn := by decide +kernel
  refine lv_iload_n hx hb dX2_personOn_0 rfl (lv_at hl 1 rfl) ?_
  refine k_if_lt (tgt := 22) hx hb (by omega) dX2_personOn_1 (by decide) ?_
  refine lv_iload_n hx hb dX2_personOn_4 rfl (lv_at hl 1 rfl) ?_
  refine lv_aload_n hx hb dX2_personOn_5 rfl (lv_at hl 0 rfl) ?_
  refine k_get (own := RX2) (C := RX2) (T := TX2) (N := 1) hx hb hts hinX2 hown hK hW (kc_7 g ad t) rfl 0 (by decide) (hts (.fieldLink RX2 9 "DrillVault$Rota" "persons" "[I") (by decide +kernel)) rfl (v := .ref (ad 8 0)) rfl dX2_personOn_6 ?_
  refine k_alen hx hb hK hW 0 rfl (kc_8 g ad t) (v := nI 365) rfl dX2_personOn_9 ?_
  refine k_icmp_ge (tgt := 22) hx hb (a := j) (b := 365) (by omega) (by decide) dX2_personOn_10 (by decide) (fun h_10 => ?_) (fun h_10 => absurd h_10 (by omega))
  refine lv_iconst (v := (-1)) hx hb dX2_personOn_22 (by decide) ?_
  exact k_ri hQ hx hb hr hlk hS hW ⟨rfl, rfl⟩ (Nat.le_of_ble_eq_true rfl) (Nat.le_of_ble_eq_true rfl) dX2_personOn_23
abbrev rm_X2_exchange : Room := { frames := 0, cells := 0, slots := 0, locals := 0 }
set_option maxRecDepth 100000 in
set_option maxHeartbeats 4000000 in
theorem c_X2_exchange (l : Launch) (hlt : l.stackTraces = false) (g : k_g) (ad : k_AD) (t : k_T) (j : Nat) (k : Nat) (hj : j < 365) (hk : k < 365) : Met l yX2_exchange wsX2_exchange rm_X2_exchange (va_Pc [.ref (ad 7 0), .int (nI j), .int (nI k)] (k_I g (k_ct g ad t) ad)) (va_Qv (fun u => u = set_r_p t (va_up (va_up (r_p t) j (r_p t k)) k (r_p t j))) (fun u U => k_H g ad u U.heap) (k_A g)) 0 0 (k_A g) := by
  refine k_met (cc := cX2_exchange) (maxL := 4) (ret := none) (by decide) rfl (Nat.le_of_ble_eq_true rfl) (fun p e s m args below meth c Q ls hQ hx hb hr hml hts hown hlk hin hK hZ hN hW hS hl => ?_)
  have hown : s.vm.findClass RX2 = some m.cls := hown
  have hW : k_H g ad t s.heap := hW
  have hl : lv_has ls 4 [(0, .ref (ad 7 0)), (1, .int (nI j)), (2, .int (nI k))] := hl
  have hinX2 : ∀ w ∈ wsX20, w ∈ wsX2_exchange := by decide +kernel
  refine lv_iload_n hx hb dX2_exchange_0 rfl (lv_at hl 1 rfl) ?_
  refine k_if_lt (tgt := 26) hx hb (by omega) dX2_exchange_1 (by decide) ?_
  refine lv_iload_n hx hb dX2_exchange_4 rfl (lv_at hl 1 rfl) ?_
  refine lv_aload_n hx hb dX2_exchange_5 rfl (lv_at hl 0 rfl) ?_
  refine k_get (own := RX2) (C := RX2) (T := TX2) (N := 1) hx hb hts hinX2 hown hK hW (kc_7 g ad t) rfl 0 (by decide) (hts (.fieldLink RX2 9 "DrillVault$Rota" "persons" "[I") (by decide +kernel)) rfl (v := .ref (ad 8 0)) rfl dX2_exchange_6 ?_
  refine k_alen hx hb hK hW 0 rfl (kc_8 g ad t) (v := nI 365) rfl dX2_exchange_9 ?_
  refine k_icmp_ge (tgt := 26) hx hb (a := j) (b := 365) (by omega) (by decide) dX2_exchange_10 (by decide) (fun h_10 => absurd h_10 (by omega)) (fun h_10 => ?_)
  refine lv_iload_n hx hb dX2_exchange_13 rfl (lv_at hl 2 rfl) ?_
  refine k_if_lt (tgt := 26) hx hb (by omega) dX2_exchange_14 (by decide) ?_
  refine lv_iload_n hx hb dX2_exchange_17 rfl (lv_at hl 2 rfl) ?_
  refine lv_aload_n hx hb dX2_exchange_18 rfl (lv_at hl 0 rfl) ?_
  refine k_get (own := RX2) (C := RX2) (T := TX2) (N := 1) hx hb hts hinX2 hown hK hW (kc_7 g ad t) rfl 0 (by decide) (hts (.fieldLink RX2 9 "DrillVault$Rota" "persons" "[I") (by decide +kernel)) rfl (v := .ref (ad 8 0)) rfl dX2_exchange_19 ?_
  refine k_alen hx hb hK hW 0 rfl (kc_8 g ad t) (v := nI 365) rfl dX2_exchange_22 ?_
  refine k_icmp_lt (tgt := 27) hx hb (a := k) (b := 365) (by omega) (by decide) dX2_exchange_23 (by decide) (fun h_23 => ?_) (fun h_23 => absurd h_23 (by omega))
  refine lv_aload_n hx hb dX2_exchange_27 rfl (lv_at hl 0 rfl) ?_
  refine k_get (own := RX2) (C := RX2) (T := TX2) (N := 1) hx hb hts hinX2 hown hK hW (kc_7 g ad t) rfl 0 (by decide) (hts (.fieldLink RX2 9 "DrillVault$Rota" "persons" "[I") (by decide +kernel)) rfl (v := .ref (ad 8 0)) rfl dX2_exchange_28 ?_
  refine lv_iload_n hx hb dX2_exchange_31 rfl (lv_at hl 1 rfl) ?_
  refine k_iald hx hb hK hW (kc_8 g ad t) j rfl (by omega) (by decide) dX2_exchange_32 ?_
  refine lv_istore_n (lv' := [(3, .int (nI (r_p t j))), (0, .ref (ad 7 0)), (1, .int (nI j)), (2, .int (nI k))]) hx hb dX2_exchange_33 rfl hl (by decide) rfl (fun ls hl => ?_)
  refine lv_aload_n hx hb dX2_exchange_34 rfl (lv_at hl 1 rfl) ?_
  refine k_get (own := RX2) (C := RX2) (T := TX2) (N := 1) hx hb hts hinX2 hown hK hW (kc_7 g ad t) rfl 0 (by decide) (hts (.fieldLink RX2 9 "DrillVault$Rota" "persons" "[I") (by decide +kernel)) rfl (v := .ref (ad 8 0)) rfl dX2_exchange_35 ?_
  refine lv_iload_n hx hb dX2_exchange_38 rfl (lv_at hl 2 rfl) ?_
  refine lv_aload_n hx hb dX2_exchange_39 rfl (lv_at hl 1 rfl) ?_
  refine k_get (own := RX2) (C := RX2) (T := TX2) (N := 1) hx hb hts hinX2 hown hK hW (kc_7 g ad t) rfl 0 (by decide) (hts (.fieldLink RX2 9 "DrillVault$Rota" "persons" "[I") (by decide +kernel)) rfl (v := .ref (ad 8 0)) rfl dX2_exchange_40 ?_
  refine lv_iload_n hx hb dX2_exchange_43 rfl (lv_at hl 3 rfl) ?_
  refine k_iald hx hb hK hW (kc_8 g ad t) k rfl (by omega) (by decide) dX2_exchange_44 ?_
  refine k_iast hx hb hK hW hS (kc_8 g ad t) j rfl (by omega) (by decide) dX2_exchange_45 (fun H locs hW hS => ?_)
  have hW : k_H g ad (set_r_p t (va_up (r_p t) j (r_p t k))) H := kt_r_p (t := t) j (r_p t k) rfl hW
  refine lv_aload_n hx hb dX2_exchange_46 rfl (lv_at hl 1 rfl) ?_
  refine k_get (own := RX2) (C := RX2) (T := TX2) (N := 1) hx hb hts hinX2 hown hK hW (kc_7 g ad (set_r_p t (va_up (r_p t) j (r_p t k)))) rfl 0 (by decide) (hts (.fieldLink RX2 9 "DrillVault$Rota" "persons" "[I") (by decide +kernel)) rfl (v := .ref (ad 8 0)) rfl dX2_exchange_47 ?_
  refine lv_iload_n hx hb dX2_exchange_50 rfl (lv_at hl 3 rfl) ?_
  refine lv_iload_n hx hb dX2_exchange_51 rfl (lv_at hl 0 rfl) ?_
  refine k_iast hx hb hK hW hS (kc_8 g ad (set_r_p t (va_up (r_p t) j (r_p t k)))) k rfl (by omega) (by decide) dX2_exchange_52 (fun H locs hW hS => ?_)
  have hW : k_H g ad (set_r_p t (va_up (va_up (r_p t) j (r_p t k)) k (r_p t j))) H := kt_r_p (t := set_r_p t (va_up (r_p t) j (r_p t k))) k (r_p t j) rfl hW
  exact k_rv hQ hx hb hr hlk hS hW rfl (Nat.le_of_ble_eq_true rfl) (Nat.le_of_ble_eq_true rfl) dX2_exchange_53
abbrev rm_X0_hasDamagedChain : Room := { frames := 0, cells := 0, slots := 0, locals := 0 }
set_option maxRecDepth 100000 in
set_option maxHeartbeats 4000000 in
theorem c_X0_hasDamagedChain (l : Launch) (hlt : l.stackTraces = false) (g : k_g) (ad : k_AD) (t : k_T) (k0 : Nat) (hk : k0 < o_n t) (hbs : ∀ k b, k < o_n t → o_b t k = some b → b < o_n t ∧ b < k) : Met l yX0_hasDamagedChain wsX0_hasDamagedChain rm_X0_hasDamagedChain (va_Pc [.ref (ad 25 k0)] (k_I g (k_ct g ad t) ad)) (va_Qi (fun r u => r = kb ((k_cl (o_b t) k0).any (o_dm t)) ∧ u = t) (fun u U => k_H g ad u U.heap) (k_A g)) 0 0 (k_A g) := by
  refine k_met (cc := cX0_hasDamagedChain) (maxL := 2) (ret := (some .boolean)) (by decide) rfl (Nat.le_of_ble_eq_true rfl) (fun p e s m args below meth c Q ls hQ hx hb hr hml hts hown hlk hin hK hZ hN hW hS hl => ?_)
  have hown : s.vm.findClass RX0 = some m.cls := hown
  have hW : k_H g ad t s.heap := hW
  have hl : lv_has ls 2 [(0, .ref (ad 25 k0))] := hl
  have hinX0 : ∀ w ∈ wsX00, w ∈ wsX0_hasDamagedChain := by decide +kernel
  refine lv_aload_n hx hb dX0_hasDamagedChain_0 rfl (lv_at hl 0 rfl) ?_
  refine lv_astore_n (lv' := [(1, .ref (ad 25 k0)), (0, .ref (ad 25 k0))]) hx hb dX0_hasDamagedChain_1 rfl hl (by decide) rfl (fun ls hl => ?_)
  have hloop_2 : ∀ (n : Nat) (cur : Option Nat), (0 < n) → (∀ q, cur = some q → q + 1 < n ∧ q < o_n t) → ((k_cl (o_b t) k0).any (o_dm t) = (k_clo (o_b t) cur).any (o_dm t)) → ∀ (H : Heap) (locs : List Loc), k_H g ad t H → va_S (k_A g) s.heap H locs → ∀ (ls : Array Slot), lv_has ls 2 [(0, .ref (ad 25 k0)), (1, va_rf (cur.map (ad 25)))] → W p l e rm_X0_hasDamagedChain s m args below meth c H locs 0 0 Q (F0 m 2 ls []) := by
    intro n
    induction n with
    | zero =>
      intro cur hfu hck hz
      exact absurd hfu (by omega)
    | succ n ih =>
      intro cur hfu hck hz H locs hW hS ls hl
      rcases cur with _ | k
      · have hl : lv_has ls 2 [(0, .ref (ad 25 k0)), (1, .null)] := hl
        refine lv_aload_nN hx hb dX0_hasDamagedChain_2 rfl (lv_at hl 1 rfl) ?_
        refine lv_ifnullN (tgt := 23) hx hb dX0_hasDamagedChain_3 (by decide) ?_
        refine lv_iconst (v := nI 0) hx hb dX0_hasDamagedChain_23 (by decide) ?_
        exact k_rz hQ hx hb hr rfl hlk hS hW ⟨by rw [hz]; rfl, rfl⟩ (Nat.le_of_ble_eq_true rfl) (Nat.le_of_ble_eq_true rfl) dX0_hasDamagedChain_24
      · have hl : lv_has ls 2 [(0, .ref (ad 25 k0)), (1, .ref (ad 25 k))] := hl
        have hdk : ∀ b, o_b t k = some b → b < k := fun b hb => (hbs _ _ (hck _ rfl).2 hb).2
        rw [k_clo_some hdk] at hz
        refine lv_aload_n hx hb dX0_hasDamagedChain_2 rfl (lv_at hl 1 rfl) ?_
        refine lv_ifnull hx hb dX0_hasDamagedChain_3 ?_
        refine lv_aload_n hx hb dX0_hasDamagedChain_6 rfl (lv_at hl 1 rfl) ?_
        refine k_get (own := RX0) (C := RX0) (T := TX0) (N := 11) hx hb hts hinX0 hown hK hW (kc_25 g ad t (hck _ rfl).2) rfl 6 (by decide) (hts (.fieldLink RX0 32 "DrillVault$Copy" "damaged" "Z") (by decide +kernel)) rfl (v := .int (kb (o_dm t k))) rfl dX0_hasDamagedChain_7 ?_
        refine k_ifz_eq (tgt := 15) hx hb dX0_hasDamagedChain_10 (by decide) (fun h_10 => ?_) (fun h_10 => ?_)
        · refine lv_aload_n hx hb dX0_hasDamagedChain_15 rfl (lv_at hl 1 rfl) ?_
          refine k_get (own := RX0) (C := RX0) (T := TX0) (N := 11) hx hb hts hinX0 hown hK hW (kc_25 g ad t (hck _ rfl).2) rfl 2 (by decide) (hts (.fieldLink RX0 22 "DrillVault$Copy" "base" "LDrillVault$Copy;") (by decide +kernel)) rfl (v := va_rf ((o_b t k).map (ad 25))) rfl dX0_hasDamagedChain_16 ?_
          rcases hob_19 : o_b t k with _ | b_19
          · refine k_tov (y := .null) (by first | rfl | (rw [hob_19]; rfl)) ?_
            refine lv_astore_nN (lv' := [(1, .null), (0, .ref (ad 25 k0))]) hx hb dX0_hasDamagedChain_19 rfl hl (by decide) rfl (fun ls hl => ?_)
            refine lv_goto (tgt := 2) hx hb dX0_hasDamagedChain_20 (by decide) ?_
            exact ih none (by have := (hck _ rfl).1; omega) (fun q hq => by cases hq) (by rw [hz, List.any_cons, h_10, Bool.false_or, hob_19]) _ _ hW hS _ (lv_sub hl [1, 0] rfl)
          · refine k_tov (y := .ref (ad 25 b_19)) (by first | rfl | (rw [hob_19]; rfl)) ?_
            refine lv_astore_n (lv' := [(1, .ref (ad 25 b_19)), (0, .ref (ad 25 k0))]) hx hb dX0_hasDamagedChain_19 rfl hl (by decide) rfl (fun ls hl => ?_)
            refine lv_goto (tgt := 2) hx hb dX0_hasDamagedChain_20 (by decide) ?_
            exact ih (some b_19) (by have := (hck _ rfl).1; omega) (fun q hq => by cases hq; obtain ⟨h1, h2⟩ := hck _ rfl; obtain ⟨h3, h4⟩ := hbs _ _ h2 hob_19; exact ⟨by omega, h3⟩) (by rw [hz, List.any_cons, h_10, Bool.false_or, hob_19]) _ _ hW hS _ (lv_sub hl [1, 0] rfl)
        · refine lv_iconst (v := nI 1) hx hb dX0_hasDamagedChain_13 (by decide) ?_
          exact k_rz hQ hx hb hr rfl hlk hS hW ⟨by rw [hz, List.any_cons, h_10]; rfl, rfl⟩ (Nat.le_of_ble_eq_true rfl) (Nat.le_of_ble_eq_true rfl) dX0_hasDamagedChain_14
  exact hloop_2 (k0 + 2) (some k0) (by omega) (fun q hq => by cases hq; exact ⟨by omega, hk⟩) rfl _ _ hW hS _ (lv_sub hl [1, 0] rfl)
abbrev rm_X0_proveChain : Room := { frames := 0, cells := 0, slots := 0, locals := 0 }
set_option maxRecDepth 100000 in
set_option maxHeartbeats 4000000 in
theorem c_X0_proveChain (l : Launch) (hlt : l.stackTraces = false) (g : k_g) (ad : k_AD) (t : k_T) (k0 : Nat) (v : Bool) (hk : k0 < o_n t) (hbs : ∀ k b, k < o_n t → o_b t k = some b → b < o_n t ∧ b < k) : Met l yX0_proveChain wsX0_proveChain rm_X0_proveChain (va_Pc [.ref (ad 25 k0), .int (kb v)] (k_I g (k_ct g ad t) ad)) (va_Qv (fun u => u = set_o_pv t (fun j9 => if (k_cl (o_b t) k0).contains j9 = true then v else (o_pv t) j9)) (fun u U => k_H g ad u U.heap) (k_A g)) 0 0 (k_A g) := by
  refine k_met (cc := cX0_proveChain) (maxL := 3) (ret := none) (by decide) rfl (Nat.le_of_ble_eq_true rfl) (fun p e s m args below meth c Q ls hQ hx hb hr hml hts hown hlk hin hK hZ hN hW hS hl => ?_)
  have hown : s.vm.findClass RX0 = some m.cls := hown
  have hW : k_H g ad t s.heap := hW
  have hl : lv_has ls 3 [(0, .ref (ad 25 k0)), (1, .int (kb v))] := hl
  have hinX0 : ∀ w ∈ wsX00, w ∈ wsX0_proveChain := by decide +kernel
  refine lv_aload_n hx hb dX0_proveChain_0 rfl (lv_at hl 0 rfl) ?_
  refine lv_astore_n (lv' := [(2, .ref (ad 25 k0)), (0, .ref (ad 25 k0)), (1, .int (kb v))]) hx hb dX0_proveChain_1 rfl hl (by decide) rfl (fun ls hl => ?_)
  have hloop_2 : ∀ (n : Nat) (cur : Option Nat) (PV : Nat → Bool), (0 < n) → (∀ q, cur = some q → q + 1 < n ∧ q < o_n t) → (∀ j, (fun j => if (k_cl (o_b t) k0).contains j = true then v else o_pv t j) j = if (k_clo (o_b t) cur).contains j = true then v else PV j) → ∀ (H : Heap) (locs : List Loc), k_H g ad (set_o_pv t PV) H → va_S (k_A g) s.heap H locs → ∀ (ls : Array Slot), lv_has ls 3 [(0, .ref (ad 25 k0)), (1, .int (kb v)), (2, va_rf (cur.map (ad 25)))] → W p l e rm_X0_proveChain s m args below meth c H locs 0 0 Q (F0 m 2 ls []) := by
    intro n
    induction n with
    | zero =>
      intro cur PV hfu hck hz
      exact absurd hfu (by omega)
    | succ n ih =>
      intro cur PV hfu hck hz H locs hW hS ls hl
      rcases cur with _ | k
      · have hl : lv_has ls 3 [(0, .ref (ad 25 k0)), (1, .int (kb v)), (2, .null)] := hl
        refine lv_aload_nN hx hb dX0_proveChain_2 rfl (lv_at hl 2 rfl) ?_
        refine lv_ifnullN (tgt := 19) hx hb dX0_proveChain_3 (by decide) ?_
        exact k_rv hQ hx hb hr hlk hS hW (by rw [show PV = (fun j => if (k_cl (o_b t) k0).contains j = true then v else o_pv t j) from funext fun j => (hz j).symm]) (Nat.le_of_ble_eq_true rfl) (Nat.le_of_ble_eq_true rfl) dX0_proveChain_19
      · have hl : lv_has ls 3 [(0, .ref (ad 25 k0)), (1, .int (kb v)), (2, .ref (ad 25 k))] := hl
        have hdk : ∀ b, o_b t k = some b → b < k := fun b hb => (hbs _ _ (hck _ rfl).2 hb).2
        rw [k_clo_some hdk] at hz
        refine lv_aload_n hx hb dX0_proveChain_2 rfl (lv_at hl 2 rfl) ?_
        refine lv_ifnull hx hb dX0_proveChain_3 ?_
        refine lv_aload_n hx hb dX0_proveChain_6 rfl (lv_at hl 2 rfl) ?_
        refine lv_iload_n hx hb dX0_proveChain_7 rfl (lv_at hl 1 rfl) ?_
        refine k_put (own := RX0) (C := RX0) (T := TX0) (N := 11) hx hb hts hinX0 tyX0 tyX0_ok nmX0 hown hK hW hS (kc_25 g ad (set_o_pv t PV) (hck _ rfl).2) rfl 7 (by decide) (hts (.fieldLink RX0 36 "DrillVault$Copy" "proved" "Z") (by decide +kernel)) rfl rfl (ty := tyX0 7) (v := .int (kb v)) (tyX0_ok 7 (by decide)) (kb_nar _) (kb_fit _) (Nat.le_of_ble_eq_true rfl) dX0_proveChain_8 (fun H locs hW hS => ?_)
        have hW : k_H g ad (set_o_pv t (va_up PV k v)) H := kt_o_pv (t := set_o_pv t PV) k (hck _ rfl).2 v rfl hW
        refine lv_aload_n hx hb dX0_proveChain_11 rfl (lv_at hl 2 rfl) ?_
        refine k_get (own := RX0) (C := RX0) (T := TX0) (N := 11) hx hb hts hinX0 hown hK hW (kc_25 g ad (set_o_pv t (va_up PV k v)) (hck _ rfl).2) rfl 2 (by decide) (hts (.fieldLink RX0 22 "DrillVault$Copy" "base" "LDrillVault$Copy;") (by decide +kernel)) rfl (v := va_rf ((o_b t k).map (ad 25))) rfl dX0_proveChain_12 ?_
        rcases hob_15 : o_b t k with _ | b_15
        · refine k_tov (y := .null) (by first | rfl | (rw [hob_15]; rfl)) ?_
          refine lv_astore_nN (lv' := [(2, .null), (0, .ref (ad 25 k0)), (1, .int (kb v))]) hx hb dX0_proveChain_15 rfl hl (by decide) rfl (fun ls hl => ?_)
          refine lv_goto (tgt := 2) hx hb dX0_proveChain_16 (by decide) ?_
          exact ih none (va_up PV k v) (by have := (hck _ rfl).1; omega) (fun q hq => by cases hq) (by have h9 := k_pv_step hz; rw [hob_15] at h9; exact h9) _ _ hW hS _ (lv_sub hl [1, 2, 0] rfl)
        · refine k_tov (y := .ref (ad 25 b_15)) (by first | rfl | (rw [hob_15]; rfl)) ?_
          refine lv_astore_n (lv' := [(2, .ref (ad 25 b_15)), (0, .ref (ad 25 k0)), (1, .int (kb v))]) hx hb dX0_proveChain_15 rfl hl (by decide) rfl (fun ls hl => ?_)
          refine lv_goto (tgt := 2) hx hb dX0_proveChain_16 (by decide) ?_
          exact ih (some b_15) (va_up PV k v) (by have := (hck _ rfl).1; omega) (fun q hq => by cases hq; obtain ⟨h1, h2⟩ := hck _ rfl; obtain ⟨h3, h4⟩ := hbs _ _ h2 hob_15; exact ⟨by omega, h3⟩) (by have h9 := k_pv_step hz; rw [hob_15] at h9; exact h9) _ _ hW hS _ (lv_sub hl [1, 2, 0] rfl)
  exact hloop_2 (k0 + 2) (some k0) (o_pv t) (by omega) (fun q hq => by cases hq; exact ⟨by omega, hk⟩) (fun j => rfl) _ _ hW hS _ (lv_sub hl [1, 2, 0] rfl)
abbrev rm_X0_chainLength : Room := { frames := 0, cells := 0, slots := 0, locals := 0 }
set_option maxRecDepth 100000 in
set_option maxHeartbeats 4000000 in
theorem c_X0_chainLength (l : Launch) (hlt : l.stackTraces = false) (g : k_g) (ad : k_AD) (t : k_T) (k0 : Nat) (hk : k0 < o_n t) (hbs : ∀ k b, k < o_n t → o_b t k = some b → b < o_n t ∧ b < k) : Met l yX0_chainLength wsX0_chainLength rm_X0_chainLength (va_Pc [.ref (ad 25 k0)] (k_I g (k_ct g ad t) ad)) (va_Qi (fun r u => r = nI ((k_cl (o_b t) k0).length) ∧ u = t) (fun u U => k_H g ad u U.heap) (k_A g)) 0 0 (k_A g) := by
  refine k_met (cc := cX0_chainLength) (maxL := 3) (ret := (some .int)) (by decide) rfl (Nat.le_of_ble_eq_true rfl) (fun p e s m args below meth c Q ls hQ hx hb hr hml hts hown hlk hin hK hZ hN hW hS hl => ?_)
  have hown : s.vm.findClass RX0 = some m.cls := hown
  have hW : k_H g ad t s.heap := hW
  have hl : lv_has ls 3 [(0, .ref (ad 25 k0))] := hl
  have hinX0 : ∀ w ∈ wsX00, w ∈ wsX0_chainLength := by decide +kernel
  refine lv_iconst (v := nI 0) hx hb dX0_chainLength_0 (by decide) ?_
  refine lv_istore_n (lv' := [(1, .int (nI 0)), (0, .ref (ad 25 k0))]) hx hb dX0_chainLength_1 rfl hl (by decide) rfl (fun ls hl => ?_)
  refine lv_aload_n hx hb dX0_chainLength_2 rfl (lv_at hl 1 rfl) ?_
  refine lv_astore_n (lv' := [(2, .ref (ad 25 k0)), (1, .int (nI 0)), (0, .ref (ad 25 k0))]) hx hb dX0_chainLength_3 rfl hl (by decide) rfl (fun ls hl => ?_)
  have hloop_4 : ∀ (n : Nat) (cur : Option Nat) (cn : Nat), (0 < n) → (∀ q, cur = some q → q + 1 < n ∧ q < o_n t) → ((k_cl (o_b t) k0).length = cn + (k_clo (o_b t) cur).length) → ∀ (H : Heap) (locs : List Loc), k_H g ad t H → va_S (k_A g) s.heap H locs → ∀ (ls : Array Slot), lv_has ls 3 [(0, .ref (ad 25 k0)), (1, .int (nI cn)), (2, va_rf (cur.map (ad 25)))] → W p l e rm_X0_chainLength s m args below meth c H locs 0 0 Q (F0 m 4 ls []) := by
    intro n
    induction n with
    | zero =>
      intro cur cn hfu hck hz
      exact absurd hfu (by omega)
    | succ n ih =>
      intro cur cn hfu hck hz H locs hW hS ls hl
      rcases cur with _ | k
      · have hl : lv_has ls 3 [(0, .ref (ad 25 k0)), (1, .int (nI cn)), (2, .null)] := hl
        refine lv_aload_nN hx hb dX0_chainLength_4 rfl (lv_at hl 2 rfl) ?_
        refine lv_ifnullN (tgt := 19) hx hb dX0_chainLength_5 (by decide) ?_
        refine lv_iload_n hx hb dX0_chainLength_19 rfl (lv_at hl 1 rfl) ?_
        exact k_ri hQ hx hb hr hlk hS hW ⟨by rw [hz]; rfl, rfl⟩ (Nat.le_of_ble_eq_true rfl) (Nat.le_of_ble_eq_true rfl) dX0_chainLength_20
      · have hl : lv_has ls 3 [(0, .ref (ad 25 k0)), (1, .int (nI cn)), (2, .ref (ad 25 k))] := hl
        have hdk : ∀ b, o_b t k = some b → b < k := fun b hb => (hbs _ _ (hck _ rfl).2 hb).2
        rw [k_clo_some hdk] at hz
        refine lv_aload_n hx hb dX0_chainLength_4 rfl (lv_at hl 2 rfl) ?_
        refine lv_ifnull hx hb dX0_chainLength_5 ?_
        refine lv_iinc (v := nI (cn + 1)) (lv' := [(1, .int (nI (cn + 1))), (0, .ref (ad 25 k0)), (2, .ref (ad 25 k))]) hx hb dX0_chainLength_8 hl (k := 1) rfl (nI_add _ _) (by decide) rfl (fun ls hl => ?_)
        refine lv_aload_n hx hb dX0_chainLength_11 rfl (lv_at hl 2 rfl) ?_
        refine k_get (own := RX0) (C := RX0) (T := TX0) (N := 11) hx hb hts hinX0 hown hK hW (kc_25 g ad t (hck _ rfl).2) rfl 2 (by decide) (hts (.fieldLink RX0 22 "DrillVault$Copy" "base" "LDrillVault$Copy;") (by decide +kernel)) rfl (v := va_rf ((o_b t k).map (ad 25))) rfl dX0_chainLength_12 ?_
        rcases hob_15 : o_b t k with _ | b_15
        · refine k_tov (y := .null) (by first | rfl | (rw [hob_15]; rfl)) ?_
          refine lv_astore_nN (lv' := [(2, .null), (1, .int (nI (cn + 1))), (0, .ref (ad 25 k0))]) hx hb dX0_chainLength_15 rfl hl (by decide) rfl (fun ls hl => ?_)
          refine lv_goto (tgt := 4) hx hb dX0_chainLength_16 (by decide) ?_
          exact ih none (cn + 1) (by have := (hck _ rfl).1; omega) (fun q hq => by cases hq) (by rw [hz, List.length_cons, hob_15]; omega) _ _ hW hS _ (lv_sub hl [2, 1, 0] rfl)
        · refine k_tov (y := .ref (ad 25 b_15)) (by first | rfl | (rw [hob_15]; rfl)) ?_
          refine lv_astore_n (lv' := [(2, .ref (ad 25 b_15)), (1, .int (nI (cn + 1))), (0, .ref (ad 25 k0))]) hx hb dX0_chainLength_15 rfl hl (by decide) rfl (fun ls hl => ?_)
          refine lv_goto (tgt := 4) hx hb dX0_chainLength_16 (by decide) ?_
          exact ih (some b_15) (cn + 1) (by have := (hck _ rfl).1; omega) (fun q hq => by cases hq; obtain ⟨h1, h2⟩ := hck _ rfl; obtain ⟨h3, h4⟩ := hbs _ _ h2 hob_15; exact ⟨by omega, h3⟩) (by rw [hz, List.length_cons, hob_15]; omega) _ _ hW hS _ (lv_sub hl [2, 1, 0] rfl)
  exact hloop_4 (k0 + 2) (some k0) 0 (by omega) (fun q hq => by cases hq; exact ⟨by omega, hk⟩) (Nat.zero_add _).symm _ _ hW hS _ (lv_sub hl [2, 1, 0] rfl)
abbrev rm_X0_contentByChain : Room := { frames := 0, cells := 0, slots := 0, locals := 0 }
set_option maxRecDepth 100000 in
set_option maxHeartbeats 4000000 in
theorem c_X0_contentByChain (l : Launch) (hlt : l.stackTraces = false) (g : k_g) (ad : k_AD) (t : k_T) (k0 : Nat) (j : Nat) (hk : k0 < o_n t) (hj : j < 10) (hbs : ∀ k b, k < o_n t → o_b t k = some b → b < o_n t ∧ b < k) : Met l yX0_contentByChain wsX0_contentByChain rm_X0_contentByChain (va_Pc [.ref (ad 25 k0), .int (nI j)] (k_I g (k_ct g ad t) ad)) (va_Qi (fun r u => r = k_fk (o_k t) j (k_cl (o_b t) k0) ∧ u = t) (fun u U => k_H g ad u U.heap) (k_A g)) 0 0 (k_A g) := by
  refine k_met (cc := cX0_contentByChain) (maxL := 3) (ret := (some .int)) (by decide) rfl (Nat.le_of_ble_eq_true rfl) (fun p e s m args below meth c Q ls hQ hx hb hr hml hts hown hlk hin hK hZ hN hW hS hl => ?_)
  have hown : s.vm.findClass RX0 = some m.cls := hown
  have hW : k_H g ad t s.heap := hW
  have hl : lv_has ls 3 [(0, .ref (ad 25 k0)), (1, .int (nI j))] := hl
  have hinX0 : ∀ w ∈ wsX00, w ∈ wsX0_contentByChain := by decide +kernel
  refine lv_iload_n hx hb dX0_contentByChain_0 rfl (lv_at hl 1 rfl) ?_
  refine k_if_lt (tgt := 10) hx hb (by omega) dX0_contentByChain_1 (by decide) ?_
  refine lv_iload_n hx hb dX0_contentByChain_4 rfl (lv_at hl 1 rfl) ?_
  refine lv_bipush (v := nI 10) hx hb dX0_contentByChain_5 (by decide) ?_
  refine k_icmp_lt (tgt := 12) hx hb (a := j) (b := 10) (by omega) (by decide) dX0_contentByChain_7 (by decide) (fun h_7 => ?_) (fun h_7 => absurd h_7 (by omega))
  refine lv_aload_n hx hb dX0_contentByChain_12 rfl (lv_at hl 0 rfl) ?_
  refine lv_astore_n (lv' := [(2, .ref (ad 25 k0)), (0, .ref (ad 25 k0)), (1, .int (nI j))]) hx hb dX0_contentByChain_13 rfl hl (by decide) rfl (fun ls hl => ?_)
  have hloop_14 : ∀ (n : Nat) (cur : Option Nat), (0 < n) → (∀ q, cur = some q → q + 1 < n ∧ q < o_n t) → (k_fk (o_k t) j (k_cl (o_b t) k0) = k_fk (o_k t) j (k_clo (o_b t) cur)) → ∀ (H : Heap) (locs : List Loc), k_H g ad t H → va_S (k_A g) s.heap H locs → ∀ (ls : Array Slot), lv_has ls 3 [(0, .ref (ad 25 k0)), (1, .int (nI j)), (2, va_rf (cur.map (ad 25)))] → W p l e rm_X0_contentByChain s m args below meth c H locs 0 0 Q (F0 m 14 ls []) := by
    intro n
    induction n with
    | zero =>
      intro cur hfu hck hz
      exact absurd hfu (by omega)
    | succ n ih =>
      intro cur hfu hck hz H locs hW hS ls hl
      rcases cur with _ | k
      · have hl : lv_has ls 3 [(0, .ref (ad 25 k0)), (1, .int (nI j)), (2, .null)] := hl
        refine lv_aload_nN hx hb dX0_contentByChain_14 rfl (lv_at hl 2 rfl) ?_
        refine lv_ifnullN (tgt := 52) hx hb dX0_contentByChain_15 (by decide) ?_
        refine lv_iconst (v := (-1)) hx hb dX0_contentByChain_52 (by decide) ?_
        exact k_ri hQ hx hb hr hlk hS hW ⟨by rw [hz]; rfl, rfl⟩ (Nat.le_of_ble_eq_true rfl) (Nat.le_of_ble_eq_true rfl) dX0_contentByChain_53
      · have hl : lv_has ls 3 [(0, .ref (ad 25 k0)), (1, .int (nI j)), (2, .ref (ad 25 k))] := hl
        have hdk : ∀ b, o_b t k = some b → b < k := fun b hb => (hbs _ _ (hck _ rfl).2 hb).2
        rw [k_clo_some hdk] at hz
        refine lv_aload_n hx hb dX0_contentByChain_14 rfl (lv_at hl 2 rfl) ?_
        refine lv_ifnull hx hb dX0_contentByChain_15 ?_
        refine lv_iload_n hx hb dX0_contentByChain_18 rfl (lv_at hl 1 rfl) ?_
        refine lv_aload_n hx hb dX0_contentByChain_19 rfl (lv_at hl 2 rfl) ?_
        refine k_get (own := RX0) (C := RX0) (T := TX0) (N := 11) hx hb hts hinX0 hown hK hW (kc_25 g ad t (hck _ rfl).2) rfl 4 (by decide) (hts (.fieldLink RX0 9 "DrillVault$Copy" "kept" "[I") (by decide +kernel)) rfl (v := .ref (ad 26 k)) rfl dX0_contentByChain_20 ?_
        refine k_alen hx hb hK hW 0 rfl (kc_26 g ad t (hck _ rfl).2) (v := nI 10) rfl dX0_contentByChain_23 ?_
        refine k_icmp_ge (tgt := 44) hx hb (a := j) (b := 10) (by omega) (by decide) dX0_contentByChain_24 (by decide) (fun h_24 => absurd h_24 (by omega)) (fun h_24 => ?_)
        refine lv_aload_n hx hb dX0_contentByChain_27 rfl (lv_at hl 2 rfl) ?_
        refine k_get (own := RX0) (C := RX0) (T := TX0) (N := 11) hx hb hts hinX0 hown hK hW (kc_25 g ad t (hck _ rfl).2) rfl 4 (by decide) (hts (.fieldLink RX0 9 "DrillVault$Copy" "kept" "[I") (by decide +kernel)) rfl (v := .ref (ad 26 k)) rfl dX0_contentByChain_28 ?_
        refine lv_iload_n hx hb dX0_contentByChain_31 rfl (lv_at hl 1 rfl) ?_
        refine k_iald hx hb hK hW (kc_26 g ad t (hck _ rfl).2) j rfl (by omega) (by decide) dX0_contentByChain_32 ?_
        refine lv_iconst (v := (-1)) hx hb dX0_contentByChain_33 (by decide) ?_
        refine lv_icmp_eq (tgt := 44) hx hb dX0_contentByChain_34 (by decide) (fun h_34 => ?_) (fun h_34 => ?_)
        · refine lv_aload_n hx hb dX0_contentByChain_44 rfl (lv_at hl 2 rfl) ?_
          refine k_get (own := RX0) (C := RX0) (T := TX0) (N := 11) hx hb hts hinX0 hown hK hW (kc_25 g ad t (hck _ rfl).2) rfl 2 (by decide) (hts (.fieldLink RX0 22 "DrillVault$Copy" "base" "LDrillVault$Copy;") (by decide +kernel)) rfl (v := va_rf ((o_b t k).map (ad 25))) rfl dX0_contentByChain_45 ?_
          rcases hob_48 : o_b t k with _ | b_48
          · refine k_tov (y := .null) (by first | rfl | (rw [hob_48]; rfl)) ?_
            refine lv_astore_nN (lv' := [(2, .null), (0, .ref (ad 25 k0)), (1, .int (nI j))]) hx hb dX0_contentByChain_48 rfl hl (by decide) rfl (fun ls hl => ?_)
            refine lv_goto (tgt := 14) hx hb dX0_contentByChain_49 (by decide) ?_
            exact ih none (by have := (hck _ rfl).1; omega) (fun q hq => by cases hq) (by rw [hz, k_fk, if_pos h_34, hob_48]) _ _ hW hS _ (lv_sub hl [1, 2, 0] rfl)
          · refine k_tov (y := .ref (ad 25 b_48)) (by first | rfl | (rw [hob_48]; rfl)) ?_
            refine lv_astore_n (lv' := [(2, .ref (ad 25 b_48)), (0, .ref (ad 25 k0)), (1, .int (nI j))]) hx hb dX0_contentByChain_48 rfl hl (by decide) rfl (fun ls hl => ?_)
            refine lv_goto (tgt := 14) hx hb dX0_contentByChain_49 (by decide) ?_
            exact ih (some b_48) (by have := (hck _ rfl).1; omega) (fun q hq => by cases hq; obtain ⟨h1, h2⟩ := hck _ rfl; obtain ⟨h3, h4⟩ := hbs _ _ h2 hob_48; exact ⟨by omega, h3⟩) (by rw [hz, k_fk, if_pos h_34, hob_48]) _ _ hW hS _ (lv_sub hl [1, 2, 0] rfl)
        · refine lv_aload_n hx hb dX0_contentByChain_37 rfl (lv_at hl 2 rfl) ?_
          refine k_get (own := RX0) (C := RX0) (T := TX0) (N := 11) hx hb hts hinX0 hown hK hW (kc_25 g ad t (hck _ rfl).2) rfl 4 (by decide) (hts (.fieldLink RX0 9 "DrillVault$Copy" "kept" "[I") (by decide +kernel)) rfl (v := .ref (ad 26 k)) rfl dX0_contentByChain_38 ?_
          refine lv_iload_n hx hb dX0_contentByChain_41 rfl (lv_at hl 1 rfl) ?_
          refine k_iald hx hb hK hW (kc_26 g ad t (hck _ rfl).2) j rfl (by omega) (by decide) dX0_contentByChain_42 ?_
          exact k_ri hQ hx hb hr hlk hS hW ⟨by rw [hz, k_fk, if_neg h_34], rfl⟩ (Nat.le_of_ble_eq_true rfl) (Nat.le_of_ble_eq_true rfl) dX0_contentByChain_43
  exact hloop_14 (k0 + 2) (some k0) (by omega) (fun q hq => by cases hq; exact ⟨by omega, hk⟩) rfl _ _ hW hS _ (lv_sub hl [1, 2, 0] rfl)
abbrev rm_X0_markChainNeeded : Room := { frames := 0, cells := 0, slots := 0, locals := 0 }
set_option maxRecDepth 100000 in
set_option maxHeartbeats 4000000 in
theorem c_X0_markChainNeeded (l : Launch) (hlt : l.stackTraces = false) (g : k_g) (ad : k_AD) (t : k_T) (k0 : Nat) (hk : k0 < o_n t) (hbs : ∀ k b, k < o_n t → o_b t k = some b → b < o_n t ∧ b < k) (hk0 : s_th t k0 = true) (hth : ∀ j b, s_th t j = true → o_b t j = some b → s_th t b = true) (hnc : ∀ j b, s_th t j = true → o_nd t j = true → o_b t j = some b → o_nd t b = true) (hwf : ∀ j, s_th t j = true → j < o_n t) : Met l yX0_markChainNeeded wsX0_markChainNeeded rm_X0_markChainNeeded (va_Pc [.ref (ad 25 k0)] (k_I g (k_ct g ad t) ad)) (va_Qv (fun u => u = set_o_nd t (fun j9 => (o_nd t) j9 || (k_cl (o_b t) k0).contains j9)) (fun u U => k_H g ad u U.heap) (k_A g)) 0 0 (k_A g) := by
  refine k_met (cc := cX0_markChainNeeded) (maxL := 2) (ret := none) (by decide) rfl (Nat.le_of_ble_eq_true rfl) (fun p e s m args below meth c Q ls hQ hx hb hr hml hts hown hlk hin hK hZ hN hW hS hl => ?_)
  have hown : s.vm.findClass RX0 = some m.cls := hown
  have hW : k_H g ad t s.heap := hW
  have hl : lv_has ls 2 [(0, .ref (ad 25 k0))] := hl
  have hinX0 : ∀ w ∈ wsX00, w ∈ wsX0_markChainNeeded := by decide +kernel
  refine lv_aload_n hx hb dX0_markChainNeeded_0 rfl (lv_at hl 0 rfl) ?_
  refine lv_astore_n (lv' := [(1, .ref (ad 25 k0)), (0, .ref (ad 25 k0))]) hx hb dX0_markChainNeeded_1 rfl hl (by decide) rfl (fun ls hl => ?_)
  have hloop_2 : ∀ (n : Nat) (cur : Option Nat) (N : Nat → Bool), (0 < n) → (∀ q, cur = some q → q + 1 < n ∧ q < o_n t) → (∀ j, (fun j => o_nd t j || (k_cl (o_b t) k0).contains j) j = (N j || (k_clo (o_b t) cur).contains j)) → (∀ j, N j = true → ∀ q, cur = some q → j ≤ q → o_nd t j = true) → (∀ j, o_nd t j = true → N j = true) → (∀ q, cur = some q → s_th t q = true) → ∀ (H : Heap) (locs : List Loc), k_H g ad (set_o_nd t N) H → va_S (k_A g) s.heap H locs → ∀ (ls : Array Slot), lv_has ls 2 [(0, .ref (ad 25 k0)), (1, va_rf (cur.map (ad 25)))] → W p l e rm_X0_markChainNeeded s m args below meth c H locs 0 0 Q (F0 m 2 ls []) := by
    intro n
    induction n with
    | zero =>
      intro cur N hfu hck hz h1 h2 hcs
      exact absurd hfu (by omega)
    | succ n ih =>
      intro cur N hfu hck hz h1 h2 hcs H locs hW hS ls hl
      rcases cur with _ | k
      · have hl : lv_has ls 2 [(0, .ref (ad 25 k0)), (1, .null)] := hl
        refine lv_aload_nN hx hb dX0_markChainNeeded_2 rfl (lv_at hl 1 rfl) ?_
        refine lv_ifnullN (tgt := 26) hx hb dX0_markChainNeeded_3 (by decide) ?_
        exact k_rv hQ hx hb hr hlk hS hW (by rw [show N = (fun j => o_nd t j || (k_cl (o_b t) k0).contains j) from k_nd_stop hz (fun j hj => by cases hj)]) (Nat.le_of_ble_eq_true rfl) (Nat.le_of_ble_eq_true rfl) dX0_markChainNeeded_26
      · have hl : lv_has ls 2 [(0, .ref (ad 25 k0)), (1, .ref (ad 25 k))] := hl
        have hdk : ∀ b, o_b t k = some b → b < k := fun b hb => (hbs _ _ (hck _ rfl).2 hb).2
        have hzs := hz
        rw [k_clo_some hdk] at hz
        refine lv_aload_n hx hb dX0_markChainNeeded_2 rfl (lv_at hl 1 rfl) ?_
        refine lv_ifnull hx hb dX0_markChainNeeded_3 ?_
        refine lv_aload_n hx hb dX0_markChainNeeded_6 rfl (lv_at hl 1 rfl) ?_
        refine k_get (own := RX0) (C := RX0) (T := TX0) (N := 11) hx hb hts hinX0 hown hK hW (kc_25 g ad (set_o_nd t N) (hck _ rfl).2) rfl 9 (by decide) (hts (.fieldLink RX0 39 "DrillVault$Copy" "needed" "Z") (by decide +kernel)) rfl (v := .int (kb (N k))) rfl dX0_markChainNeeded_7 ?_
        refine k_ifz_ne (tgt := 26) hx hb dX0_markChainNeeded_10 (by decide) (fun h_10 => ?_) (fun h_10 => ?_)
        · exact k_rv hQ hx hb hr hlk hS hW (by rw [show N = (fun j => o_nd t j || (k_cl (o_b t) k0).contains j) from k_nd_stop hzs (fun j hj => h2 j (k_nd_closed hth hnc (fun j b h hb => (hbs _ _ (hwf _ h) hb).2) k (hcs _ rfl) (h1 k h_10 k rfl (Nat.le_refl _)) j hj))]) (Nat.le_of_ble_eq_true rfl) (Nat.le_of_ble_eq_true rfl) dX0_markChainNeeded_26
        · refine lv_aload_n hx hb dX0_markChainNeeded_13 rfl (lv_at hl 1 rfl) ?_
          refine lv_iconst (v := nI 1) hx hb dX0_markChainNeeded_14 (by decide) ?_
          refine k_put (own := RX0) (C := RX0) (T := TX0) (N := 11) hx hb hts hinX0 tyX0 tyX0_ok nmX0 hown hK hW hS (kc_25 g ad (set_o_nd t N) (hck _ rfl).2) rfl 9 (by decide) (hts (.fieldLink RX0 39 "DrillVault$Copy" "needed" "Z") (by decide +kernel)) rfl rfl (ty := tyX0 9) (v := .int (nI 1)) (tyX0_ok 9 (by decide)) rfl rfl (Nat.le_of_ble_eq_true rfl) dX0_markChainNeeded_15 (fun H locs hW hS => ?_)
          have hW : k_H g ad (set_o_nd t (va_up N k true)) H := kt_o_nd (t := set_o_nd t N) k (hck _ rfl).2 true rfl hW
          refine lv_aload_n hx hb dX0_markChainNeeded_18 rfl (lv_at hl 1 rfl) ?_
          refine k_get (own := RX0) (C := RX0) (T := TX0) (N := 11) hx hb hts hinX0 hown hK hW (kc_25 g ad (set_o_nd t (va_up N k true)) (hck _ rfl).2) rfl 2 (by decide) (hts (.fieldLink RX0 22 "DrillVault$Copy" "base" "LDrillVault$Copy;") (by decide +kernel)) rfl (v := va_rf ((o_b t k).map (ad 25))) rfl dX0_markChainNeeded_19 ?_
          rcases hob_22 : o_b t k with _ | b_22
          · refine k_tov (y := .null) (by first | rfl | (rw [hob_22]; rfl)) ?_
            refine lv_astore_nN (lv' := [(1, .null), (0, .ref (ad 25 k0))]) hx hb dX0_markChainNeeded_22 rfl hl (by decide) rfl (fun ls hl => ?_)
            refine lv_goto (tgt := 2) hx hb dX0_markChainNeeded_23 (by decide) ?_
            exact ih none (va_up N k true) (by have := (hck _ rfl).1; omega) (fun q hq => by cases hq) (by have h9 := k_nd_step hz; rw [hob_22] at h9; exact h9) (k_nd_h1 h1 (by rw [← hob_22]; exact hdk)) (k_nd_h2 h2) (by rw [← hob_22]; exact fun q hq => hth _ _ (hcs _ rfl) hq) _ _ hW hS _ (lv_sub hl [1, 0] rfl)
          · refine k_tov (y := .ref (ad 25 b_22)) (by first | rfl | (rw [hob_22]; rfl)) ?_
            refine lv_astore_n (lv' := [(1, .ref (ad 25 b_22)), (0, .ref (ad 25 k0))]) hx hb dX0_markChainNeeded_22 rfl hl (by decide) rfl (fun ls hl => ?_)
            refine lv_goto (tgt := 2) hx hb dX0_markChainNeeded_23 (by decide) ?_
            exact ih (some b_22) (va_up N k true) (by have := (hck _ rfl).1; omega) (fun q hq => by cases hq; obtain ⟨h1, h2⟩ := hck _ rfl; obtain ⟨h3, h4⟩ := hbs _ _ h2 hob_22; exact ⟨by omega, h3⟩) (by have h9 := k_nd_step hz; rw [hob_22] at h9; exact h9) (k_nd_h1 h1 (by rw [← hob_22]; exact hdk)) (k_nd_h2 h2) (by rw [← hob_22]; exact fun q hq => hth _ _ (hcs _ rfl) hq) _ _ hW hS _ (lv_sub hl [1, 0] rfl)
  exact hloop_2 (k0 + 2) (some k0) (o_nd t) (by omega) (fun q hq => by cases hq; exact ⟨by omega, hk⟩) (fun j => rfl) (fun j h _ _ _ => h) (fun j h => h) (fun q hq => by cases hq; exact hk0) _ _ hW hS _ (lv_sub hl [1, 0] rfl)
