abbrev rm_X4_requireFile : Room := { frames := 6, cells := 1, slots := 6, locals := 90 }
set_option maxRecDepth 100000 in
set_option maxHeartbeats 4000000 in
theorem c_X4_requireFile (l : Launch) (hlt : l.stackTraces = false) (g : k_g) (ad : k_AD) (t : k_T) (j : Nat) (hj : j < 10) : Met l yX4_requireFile wsX4_requireFile rm_X4_requireFile (va_Pc [.int (nI j)] (k_I g (k_ct g ad t) ad)) (va_Qv (fun u => u = t) (fun u U => k_H g ad u U.heap) (k_A g)) 1 6 (k_A g) := by
  refine k_met (cc := cX4_requireFile) (maxL := 1) (ret := none) (by decide) rfl (Nat.le_of_ble_eq_true rfl) (fun p e s m args below meth c Q ls hQ hx hb hr hml hts hown hlk hin hK hZ hN hW hS hl => ?_)
  have hown : s.vm.findClass RX4 = some m.cls := hown
  have hW : k_H g ad t s.heap := hW
  have hl : lv_has ls 1 [(0, .int (nI j))] := hl
  refine lv_iload_n hx hb dX4_requireFile_0 rfl (lv_at hl 0 rfl) ?_
  refine k_if_lt (tgt := 10) hx hb (by omega) dX4_requireFile_1 (by decide) ?_
  refine lv_iload_n hx hb dX4_requireFile_4 rfl (lv_at hl 0 rfl) ?_
  refine lv_bipush (v := nI 10) hx hb dX4_requireFile_5 (by decide) ?_
  refine k_icmp_lt (tgt := 20) hx hb (a := j) (b := 10) (by omega) (by decide) dX4_requireFile_7 (by decide) (fun h_7 => ?_) (fun h_7 => absurd h_7 (by omega))
  exact k_rv hQ hx hb hr hlk hS hW rfl (Nat.le_of_ble_eq_true rfl) (Nat.le_of_ble_eq_true rfl) dX4_requireFile_20
set_option maxRecDepth 100000 in
set_option maxHeartbeats 4000000 in
theorem c_X4_requireFile_lo (l : Launch) (hlt : l.stackTraces = false) (g : k_g) (ad : k_AD) (t : k_T) (z : Int32) (hz : z < 0) : vx_Met l yX4_requireFile wsX4_requireFile rm_X4_requireFile (va_Pc [.int z] (k_I g (k_ct g ad t) ad)) (va_Qv (fun _ => False) (fun u U => k_H g ad u U.heap) (k_A g)) (vx_X (fun u => u = t) (fun E u U => E = "java/lang/IndexOutOfBoundsException" ∧ k_H g ad u U.heap) (k_A g)) 1 6 (k_A g) := by
  refine k_metX (cc := cX4_requireFile) (maxL := 1) (ret := none) (by decide) rfl (Nat.le_of_ble_eq_true rfl) (fun p e s m args below meth c Q ls hQ hx hb hr hml hts hown hlk hin hout hK hZ hN hW hS hl => ?_)
  have hown : s.vm.findClass RX4 = some m.cls := hown
  have hW : k_H g ad t s.heap := hW
  have hl : lv_has ls 1 [(0, .int z)] := hl
  have hatIO : ∀ w ∈ (vx_atS RX4 201 "java/lang/IndexOutOfBoundsException" ["java/lang/RuntimeException", "java/lang/Exception"]).filter goodWord, w ∈ wsX4_requireFile := by decide +kernel
  refine lv_iload_n hx hb dX4_requireFile_0 rfl (lv_at hl 0 rfl) ?_
  refine lv_if_lt (tgt := 10) hx hb dX4_requireFile_1 (by decide) (fun h_1 => ?_) (fun h_1 => absurd h_1 (fun q => q hz))
  exact k_throw (text := "no such file") hQ hout hx hb hlt hml hlk hown hts (by decide) (by decide +kernel) (by decide +kernel) hatIO k_badIO k_goodIO_197 (by decide +kernel) (by decide +kernel) hK hZ hS hW hl rfl dX4_requireFile_10 dX4_requireFile_13 dX4_requireFile_14 dX4_requireFile_16 dX4_requireFile_19 (Nat.le_of_ble_eq_true rfl) (Nat.le_of_ble_eq_true rfl) (Nat.le_of_ble_eq_true rfl) (Nat.le_of_ble_eq_true rfl) (Nat.le_of_ble_eq_true rfl) (Nat.le_of_ble_eq_true rfl)
set_option maxRecDepth 100000 in
set_option maxHeartbeats 4000000 in
theorem c_X4_requireFile_hi (l : Launch) (hlt : l.stackTraces = false) (g : k_g) (ad : k_AD) (t : k_T) (z : Int32) (hz : nI 10 ≤ z) : vx_Met l yX4_requireFile wsX4_requireFile rm_X4_requireFile (va_Pc [.int z] (k_I g (k_ct g ad t) ad)) (va_Qv (fun _ => False) (fun u U => k_H g ad u U.heap) (k_A g)) (vx_X (fun u => u = t) (fun E u U => E = "java/lang/IndexOutOfBoundsException" ∧ k_H g ad u U.heap) (k_A g)) 1 6 (k_A g) := by
  refine k_metX (cc := cX4_requireFile) (maxL := 1) (ret := none) (by decide) rfl (Nat.le_of_ble_eq_true rfl) (fun p e s m args below meth c Q ls hQ hx hb hr hml hts hown hlk hin hout hK hZ hN hW hS hl => ?_)
  have hown : s.vm.findClass RX4 = some m.cls := hown
  have hW : k_H g ad t s.heap := hW
  have hl : lv_has ls 1 [(0, .int z)] := hl
  have hatIO : ∀ w ∈ (vx_atS RX4 201 "java/lang/IndexOutOfBoundsException" ["java/lang/RuntimeException", "java/lang/Exception"]).filter goodWord, w ∈ wsX4_requireFile := by decide +kernel
  refine lv_iload_n hx hb dX4_requireFile_0 rfl (lv_at hl 0 rfl) ?_
  refine lv_if_lt (tgt := 10) hx hb dX4_requireFile_1 (by decide) (fun h_1 => absurd h_1 (k_ge_nneg hz (by decide))) (fun h_1 => ?_)
  refine lv_iload_n hx hb dX4_requireFile_4 rfl (lv_at hl 0 rfl) ?_
  refine lv_bipush (v := nI 10) hx hb dX4_requireFile_5 (by decide) ?_
  refine lv_icmp_lt (tgt := 20) hx hb dX4_requireFile_7 (by decide) (fun h_7 => absurd h_7 (Int32.not_lt.mpr hz)) (fun h_7 => ?_)
  exact k_throw (text := "no such file") hQ hout hx hb hlt hml hlk hown hts (by decide) (by decide +kernel) (by decide +kernel) hatIO k_badIO k_goodIO_197 (by decide +kernel) (by decide +kernel) hK hZ hS hW hl rfl dX4_requireFile_10 dX4_requireFile_13 dX4_requireFile_14 dX4_requireFile_16 dX4_requireFile_19 (Nat.le_of_ble_eq_true rfl) (Nat.le_of_ble_eq_true rfl) (Nat.le_of_ble_eq_true rfl) (Nat.le_of_ble_eq_true rfl) (Nat.le_of_ble_eq_true rfl) (Nat.le_of_ble_eq_true rfl)
set_option maxRecDepth 100000 in
set_option maxHeartbeats 4000000 in
theorem c_X4_requireFile_b (l : Launch) (hlt : l.stackTraces = false) (g : k_g) (ad : k_AD) (t : k_T) (z : Int32) (hz : z < 0 ∨ nI 10 ≤ z) : vx_Met l yX4_requireFile wsX4_requireFile rm_X4_requireFile (va_Pc [.int z] (k_I g (k_ct g ad t) ad)) (va_Qv (fun _ => False) (fun u U => k_H g ad u U.heap) (k_A g)) (vx_X (fun u => u = t) (fun E u U => E = "java/lang/IndexOutOfBoundsException" ∧ k_H g ad u U.heap) (k_A g)) 1 6 (k_A g) := by
  rcases hz with h | h
  · exact c_X4_requireFile_lo l hlt g ad t z h
  · exact c_X4_requireFile_hi l hlt g ad t z h
abbrev rm_X4_requireCopy : Room := { frames := 6, cells := 1, slots := 6, locals := 90 }
set_option maxRecDepth 100000 in
set_option maxHeartbeats 4000000 in
theorem c_X4_requireCopy (l : Launch) (hlt : l.stackTraces = false) (g : k_g) (ad : k_AD) (t : k_T) (j : Nat) (hj : j < 60) (hs : s_th t j = true) : Met l yX4_requireCopy wsX4_requireCopy rm_X4_requireCopy (va_Pc [.ref (ad 0 0), .int (nI j)] (k_I g (k_ct g ad t) ad)) (va_Qq (fun r u => r = some (ad 25 j) ∧ u = t) (fun u U => k_H g ad u U.heap) (k_A g)) 1 6 (k_A g) := by
  refine k_met (cc := cX4_requireCopy) (maxL := 3) (ret := (some (.object "DrillVault$Copy"))) (by decide) rfl (Nat.le_of_ble_eq_true rfl) (fun p e s m args below meth c Q ls hQ hx hb hr hml hts hown hlk hin hK hZ hN hW hS hl => ?_)
  have hown : s.vm.findClass RX4 = some m.cls := hown
  have hW : k_H g ad t s.heap := hW
  have hl : lv_has ls 3 [(0, .ref (ad 0 0)), (1, .int (nI j))] := hl
  have hinX4 : ∀ w ∈ wsX40, w ∈ wsX4_requireCopy := by decide +kernel
  refine lv_aload_n hx hb dX4_requireCopy_0 rfl (lv_at hl 0 rfl) ?_
  refine k_get (own := RX4) (C := RX4) (T := TX4) (N := 4) hx hb hts hinX4 hown hK hW (kc_0 g ad t) rfl 1 (by decide) (hts (.fieldLink RX4 19 "DrillVault" "shelf" "LDrillVault$Shelf;") (by decide +kernel)) rfl (v := .ref (ad 5 0)) rfl dX4_requireCopy_1 ?_
  refine lv_iload_n hx hb dX4_requireCopy_4 rfl (lv_at hl 1 rfl) ?_
  refine k_cq (va_runV (As := [.int (nI j)]) (rest := []) ⟨hx, hb, hml, hown, hts⟩ (c_X3_find l hlt g ad t j (by omega) (by omega)) (cwV 1 hts gX4_requireCopy_X3_find rfl rfl rfl (by decide +kernel) ⟨(Nat.le_of_ble_eq_true rfl), (Nat.le_of_ble_eq_true rfl)⟩) ⟨k_blind, k_recv hK hW (kc_5 g ad t) rfl, fun U hU hw => ⟨rfl, k_I.of hK hZ hN hS hW hU hw⟩⟩ rfl rfl hl.1 rfl (lv_room (Nat.le_of_ble_eq_true rfl)) dX4_requireCopy_5 ⟨(Nat.le_of_ble_eq_true rfl), (Nat.le_of_ble_eq_true rfl)⟩) hS (fun r u H locs hpo hW hS => ?_)
  obtain ⟨hr9, hu9⟩ := hpo; replace hu9 := hu9.symm; subst hu9; replace hr9 := hr9.symm; subst hr9
  refine k_tov (y := .ref (ad 25 j)) rfl ?_
  refine lv_astore_n (lv' := [(2, .ref (ad 25 j)), (0, .ref (ad 0 0)), (1, .int (nI j))]) hx hb dX4_requireCopy_8 rfl hl (by decide) rfl (fun ls hl => ?_)
  refine lv_aload_n hx hb dX4_requireCopy_9 rfl (lv_at hl 0 rfl) ?_
  refine lv_ifnonnull (tgt := 23) hx hb dX4_requireCopy_10 (by decide) ?_
  refine lv_aload_n hx hb dX4_requireCopy_23 rfl (lv_at hl 0 rfl) ?_
  refine k_tov (y := va_rf (some (ad 25 j))) rfl ?_
  exact k_rq hQ hx hb hr hlk hS hW ⟨rfl, rfl⟩ (Nat.le_of_ble_eq_true rfl) (Nat.le_of_ble_eq_true rfl) dX4_requireCopy_24
set_option maxRecDepth 100000 in
set_option maxHeartbeats 4000000 in
theorem c_X4_requireCopy_lo (l : Launch) (hlt : l.stackTraces = false) (g : k_g) (ad : k_AD) (t : k_T) (z : Int32) (hz : z < 0) : vx_Met l yX4_requireCopy wsX4_requireCopy rm_X4_requireCopy (va_Pc [.ref (ad 0 0), .int z] (k_I g (k_ct g ad t) ad)) (va_Qv (fun _ => False) (fun u U => k_H g ad u U.heap) (k_A g)) (vx_X (fun u => u = t) (fun E u U => E = "java/lang/IndexOutOfBoundsException" ∧ k_H g ad u U.heap) (k_A g)) 1 6 (k_A g) := by
  refine k_metX (cc := cX4_requireCopy) (maxL := 3) (ret := (some (.object "DrillVault$Copy"))) (by decide) rfl (Nat.le_of_ble_eq_true rfl) (fun p e s m args below meth c Q ls hQ hx hb hr hml hts hown hlk hin hout hK hZ hN hW hS hl => ?_)
  have hown : s.vm.findClass RX4 = some m.cls := hown
  have hW : k_H g ad t s.heap := hW
  have hl : lv_has ls 3 [(0, .ref (ad 0 0)), (1, .int z)] := hl
  have hinX4 : ∀ w ∈ wsX40, w ∈ wsX4_requireCopy := by decide +kernel
  have hatIO : ∀ w ∈ (vx_atS RX4 201 "java/lang/IndexOutOfBoundsException" ["java/lang/RuntimeException", "java/lang/Exception"]).filter goodWord, w ∈ wsX4_requireCopy := by decide +kernel
  refine lv_aload_n hx hb dX4_requireCopy_0 rfl (lv_at hl 0 rfl) ?_
  refine k_get (own := RX4) (C := RX4) (T := TX4) (N := 4) hx hb hts hinX4 hown hK hW (kc_0 g ad t) rfl 1 (by decide) (hts (.fieldLink RX4 19 "DrillVault" "shelf" "LDrillVault$Shelf;") (by decide +kernel)) rfl (v := .ref (ad 5 0)) rfl dX4_requireCopy_1 ?_
  refine lv_iload_n hx hb dX4_requireCopy_4 rfl (lv_at hl 1 rfl) ?_
  refine k_cq (va_runV (As := [.int z]) (rest := []) ⟨hx, hb, hml, hown, hts⟩ (c_X3_find_lo l hlt g ad t z hz) (cwV 1 hts gX4_requireCopy_X3_find rfl rfl rfl (by decide +kernel) ⟨(Nat.le_of_ble_eq_true rfl), (Nat.le_of_ble_eq_true rfl)⟩) ⟨k_blind, k_recv hK hW (kc_5 g ad t) rfl, fun U hU hw => ⟨rfl, k_I.of hK hZ hN hS hW hU hw⟩⟩ rfl rfl hl.1 rfl (lv_room (Nat.le_of_ble_eq_true rfl)) dX4_requireCopy_5 ⟨(Nat.le_of_ble_eq_true rfl), (Nat.le_of_ble_eq_true rfl)⟩) hS (fun r u H locs hpo hW hS => ?_)
  obtain ⟨hr9, hu9⟩ := hpo; replace hu9 := hu9.symm; subst hu9; replace hr9 := hr9.symm; subst hr9
  refine k_tov (y := .null) rfl ?_
  refine lv_astore_nN (lv' := [(2, .null), (0, .ref (ad 0 0)), (1, .int z)]) hx hb dX4_requireCopy_8 rfl hl (by decide) rfl (fun ls hl => ?_)
  refine lv_aload_nN hx hb dX4_requireCopy_9 rfl (lv_at hl 0 rfl) ?_
  refine lv_ifnonnullN hx hb dX4_requireCopy_10 ?_
  exact k_throw (text := "no such copy") hQ hout hx hb hlt hml hlk hown hts (by decide) (by decide +kernel) (by decide +kernel) hatIO k_badIO k_goodIO_197 (by decide +kernel) (by decide +kernel) hK hZ hS hW hl rfl dX4_requireCopy_13 dX4_requireCopy_16 dX4_requireCopy_17 dX4_requireCopy_19 dX4_requireCopy_22 (Nat.le_of_ble_eq_true rfl) (Nat.le_of_ble_eq_true rfl) (Nat.le_of_ble_eq_true rfl) (Nat.le_of_ble_eq_true rfl) (Nat.le_of_ble_eq_true rfl) (Nat.le_of_ble_eq_true rfl)
set_option maxRecDepth 100000 in
set_option maxHeartbeats 4000000 in
theorem c_X4_requireCopy_hi (l : Launch) (hlt : l.stackTraces = false) (g : k_g) (ad : k_AD) (t : k_T) (z : Int32) (hz : nI 60 ≤ z) : vx_Met l yX4_requireCopy wsX4_requireCopy rm_X4_requireCopy (va_Pc [.ref (ad 0 0), .int z] (k_I g (k_ct g ad t) ad)) (va_Qv (fun _ => False) (fun u U => k_H g ad u U.heap) (k_A g)) (vx_X (fun u => u = t) (fun E u U => E = "java/lang/IndexOutOfBoundsException" ∧ k_H g ad u U.heap) (k_A g)) 1 6 (k_A g) := by
  refine k_metX (cc := cX4_requireCopy) (maxL := 3) (ret := (some (.object "DrillVault$Copy"))) (by decide) rfl (Nat.le_of_ble_eq_true rfl) (fun p e s m args below meth c Q ls hQ hx hb hr hml hts hown hlk hin hout hK hZ hN hW hS hl => ?_)
  have hown : s.vm.findClass RX4 = some m.cls := hown
  have hW : k_H g ad t s.heap := hW
  have hl : lv_has ls 3 [(0, .ref (ad 0 0)), (1, .int z)] := hl
  have hinX4 : ∀ w ∈ wsX40, w ∈ wsX4_requireCopy := by decide +kernel
  have hatIO : ∀ w ∈ (vx_atS RX4 201 "java/lang/IndexOutOfBoundsException" ["java/lang/RuntimeException", "java/lang/Exception"]).filter goodWord, w ∈ wsX4_requireCopy := by decide +kernel
  refine lv_aload_n hx hb dX4_requireCopy_0 rfl (lv_at hl 0 rfl) ?_
  refine k_get (own := RX4) (C := RX4) (T := TX4) (N := 4) hx hb hts hinX4 hown hK hW (kc_0 g ad t) rfl 1 (by decide) (hts (.fieldLink RX4 19 "DrillVault" "shelf" "LDrillVault$Shelf;") (by decide +kernel)) rfl (v := .ref (ad 5 0)) rfl dX4_requireCopy_1 ?_
  refine lv_iload_n hx hb dX4_requireCopy_4 rfl (lv_at hl 1 rfl) ?_
  refine k_cq (va_runV (As := [.int z]) (rest := []) ⟨hx, hb, hml, hown, hts⟩ (c_X3_find_hi l hlt g ad t z hz) (cwV 1 hts gX4_requireCopy_X3_find rfl rfl rfl (by decide +kernel) ⟨(Nat.le_of_ble_eq_true rfl), (Nat.le_of_ble_eq_true rfl)⟩) ⟨k_blind, k_recv hK hW (kc_5 g ad t) rfl, fun U hU hw => ⟨rfl, k_I.of hK hZ hN hS hW hU hw⟩⟩ rfl rfl hl.1 rfl (lv_room (Nat.le_of_ble_eq_true rfl)) dX4_requireCopy_5 ⟨(Nat.le_of_ble_eq_true rfl), (Nat.le_of_ble_eq_true rfl)⟩) hS (fun r u H locs hpo hW hS => ?_)
  obtain ⟨hr9, hu9⟩ := hpo; replace hu9 := hu9.symm; subst hu9; replace hr9 := hr9.symm; subst hr9
  refine k_tov (y := .null) rfl ?_
  refine lv_astore_nN (lv' := [(2, .null), (0, .ref (ad 0 0)), (1, .int z)]) hx hb dX4_requireCopy_8 rfl hl (by decide) rfl (fun ls hl => ?_)
  refine lv_aload_nN hx hb dX4_requireCopy_9 rfl (lv_at hl 0 rfl) ?_
  refine lv_ifnonnullN hx hb dX4_requireCopy_10 ?_
  exact k_throw (text := "no such copy") hQ hout hx hb hlt hml hlk hown hts (by decide) (by decide +kernel) (by decide +kernel) hatIO k_badIO k_goodIO_197 (by decide +kernel) (by decide +kernel) hK hZ hS hW hl rfl dX4_requireCopy_13 dX4_requireCopy_16 dX4_requireCopy_17 dX4_requireCopy_19 dX4_requireCopy_22 (Nat.le_of_ble_eq_true rfl) (Nat.le_of_ble_eq_true rfl) (Nat.le_of_ble_eq_true rfl) (Nat.le_of_ble_eq_true rfl) (Nat.le_of_ble_eq_true rfl) (Nat.le_of_ble_eq_true rfl)
set_option maxRecDepth 100000 in
set_option maxHeartbeats 4000000 in
theorem c_X4_requireCopy_ab (l : Launch) (hlt : l.stackTraces = false) (g : k_g) (ad : k_AD) (t : k_T) (j : Nat) (hj : j < 60) (hs : s_th t j = false) : vx_Met l yX4_requireCopy wsX4_requireCopy rm_X4_requireCopy (va_Pc [.ref (ad 0 0), .int (nI j)] (k_I g (k_ct g ad t) ad)) (va_Qv (fun _ => False) (fun u U => k_H g ad u U.heap) (k_A g)) (vx_X (fun u => u = t) (fun E u U => E = "java/lang/IndexOutOfBoundsException" ∧ k_H g ad u U.heap) (k_A g)) 1 6 (k_A g) := by
  refine k_metX (cc := cX4_requireCopy) (maxL := 3) (ret := (some (.object "DrillVault$Copy"))) (by decide) rfl (Nat.le_of_ble_eq_true rfl) (fun p e s m args below meth c Q ls hQ hx hb hr hml hts hown hlk hin hout hK hZ hN hW hS hl => ?_)
  have hown : s.vm.findClass RX4 = some m.cls := hown
  have hW : k_H g ad t s.heap := hW
  have hl : lv_has ls 3 [(0, .ref (ad 0 0)), (1, .int (nI j))] := hl
  have hinX4 : ∀ w ∈ wsX40, w ∈ wsX4_requireCopy := by decide +kernel
  have hatIO : ∀ w ∈ (vx_atS RX4 201 "java/lang/IndexOutOfBoundsException" ["java/lang/RuntimeException", "java/lang/Exception"]).filter goodWord, w ∈ wsX4_requireCopy := by decide +kernel
  refine lv_aload_n hx hb dX4_requireCopy_0 rfl (lv_at hl 0 rfl) ?_
  refine k_get (own := RX4) (C := RX4) (T := TX4) (N := 4) hx hb hts hinX4 hown hK hW (kc_0 g ad t) rfl 1 (by decide) (hts (.fieldLink RX4 19 "DrillVault" "shelf" "LDrillVault$Shelf;") (by decide +kernel)) rfl (v := .ref (ad 5 0)) rfl dX4_requireCopy_1 ?_
  refine lv_iload_n hx hb dX4_requireCopy_4 rfl (lv_at hl 1 rfl) ?_
  refine k_cq (va_runV (As := [.int (nI j)]) (rest := []) ⟨hx, hb, hml, hown, hts⟩ (c_X3_find_ab l hlt g ad t j hj hs) (cwV 1 hts gX4_requireCopy_X3_find rfl rfl rfl (by decide +kernel) ⟨(Nat.le_of_ble_eq_true rfl), (Nat.le_of_ble_eq_true rfl)⟩) ⟨k_blind, k_recv hK hW (kc_5 g ad t) rfl, fun U hU hw => ⟨rfl, k_I.of hK hZ hN hS hW hU hw⟩⟩ rfl rfl hl.1 rfl (lv_room (Nat.le_of_ble_eq_true rfl)) dX4_requireCopy_5 ⟨(Nat.le_of_ble_eq_true rfl), (Nat.le_of_ble_eq_true rfl)⟩) hS (fun r u H locs hpo hW hS => ?_)
  obtain ⟨hr9, hu9⟩ := hpo; replace hu9 := hu9.symm; subst hu9; replace hr9 := hr9.symm; subst hr9
  refine k_tov (y := .null) rfl ?_
  refine lv_astore_nN (lv' := [(2, .null), (0, .ref (ad 0 0)), (1, .int (nI j))]) hx hb dX4_requireCopy_8 rfl hl (by decide) rfl (fun ls hl => ?_)
  refine lv_aload_nN hx hb dX4_requireCopy_9 rfl (lv_at hl 0 rfl) ?_
  refine lv_ifnonnullN hx hb dX4_requireCopy_10 ?_
  exact k_throw (text := "no such copy") hQ hout hx hb hlt hml hlk hown hts (by decide) (by decide +kernel) (by decide +kernel) hatIO k_badIO k_goodIO_197 (by decide +kernel) (by decide +kernel) hK hZ hS hW hl rfl dX4_requireCopy_13 dX4_requireCopy_16 dX4_requireCopy_17 dX4_requireCopy_19 dX4_requireCopy_22 (Nat.le_of_ble_eq_true rfl) (Nat.le_of_ble_eq_true rfl) (Nat.le_of_ble_eq_true rfl) (Nat.le_of_ble_eq_true rfl) (Nat.le_of_ble_eq_true rfl) (Nat.le_of_ble_eq_true rfl)
set_option maxRecDepth 100000 in
set_option maxHeartbeats 4000000 in
theorem c_X4_requireCopy_b (l : Launch) (hlt : l.stackTraces = false) (g : k_g) (ad : k_AD) (t : k_T) (z : Int32) (hz : z < 0 ∨ nI 60 ≤ z ∨ ∃ j, j < 60 ∧ z = nI j ∧ s_th t j = false) : vx_Met l yX4_requireCopy wsX4_requireCopy rm_X4_requireCopy (va_Pc [.ref (ad 0 0), .int z] (k_I g (k_ct g ad t) ad)) (va_Qv (fun _ => False) (fun u U => k_H g ad u U.heap) (k_A g)) (vx_X (fun u => u = t) (fun E u U => E = "java/lang/IndexOutOfBoundsException" ∧ k_H g ad u U.heap) (k_A g)) 1 6 (k_A g) := by
  rcases hz with h | h | ⟨j, h1, h2, h3⟩
  · exact c_X4_requireCopy_lo l hlt g ad t z h
  · exact c_X4_requireCopy_hi l hlt g ad t z h
  · subst h2; exact c_X4_requireCopy_ab l hlt g ad t j h1 h3
abbrev rm_X4_change : Room := { frames := 7, cells := 3, slots := 18, locals := 110 }
set_option maxRecDepth 100000 in
set_option maxHeartbeats 4000000 in
theorem c_X4_change_bf (l : Launch) (hlt : l.stackTraces = false) (g : k_g) (ad : k_AD) (t : k_T) (z : Int32) (v : Int32) (hz : z < 0 ∨ nI 10 ≤ z) : vx_Met l yX4_change wsX4_change rm_X4_change (va_Pc [.ref (ad 0 0), .int z, .int v] (k_I g (k_ct g ad t) ad)) (va_Qv (fun _ => False) (fun u U => k_H g ad u U.heap) (k_A g)) (vx_X (fun u => u = t) (fun E u U => E = "java/lang/IndexOutOfBoundsException" ∧ k_H g ad u U.heap) (k_A g)) 3 18 (k_A g) := by
  refine k_metX (cc := cX4_change) (maxL := 4) (ret := (some .int)) (by decide) rfl (Nat.le_of_ble_eq_true rfl) (fun p e s m args below meth c Q ls hQ hx hb hr hml hts hown hlk hin hout hK hZ hN hW hS hl => ?_)
  have hown : s.vm.findClass RX4 = some m.cls := hown
  have hW : k_H g ad t s.heap := hW
  have hl : lv_has ls 4 [(0, .ref (ad 0 0)), (1, .int z), (2, .int v)] := hl
  refine lv_iload_n hx hb dX4_change_0 rfl (lv_at hl 1 rfl) ?_
  exact k_xv hQ hout hlk (vx_runS (As := [.int z]) (rest := []) ⟨hx, hb, hml, hown, hts⟩ (c_X4_requireFile_b l hlt g ad t z hz) (va_cwS 1 hts gX4_change_X4_requireFile rfl rfl rfl (by decide +kernel) ⟨(Nat.le_of_ble_eq_true rfl), (Nat.le_of_ble_eq_true rfl)⟩) ⟨k_blind, fun U hU hw => ⟨rfl, k_I.of hK hZ hN hS hW hU hw⟩⟩ rfl rfl hl.1 rfl (lv_room (Nat.le_of_ble_eq_true rfl)) dX4_change_1 ⟨(Nat.le_of_ble_eq_true rfl), (Nat.le_of_ble_eq_true rfl)⟩) (fun _ h => h) hS (Nat.le_of_ble_eq_true rfl) (Nat.le_of_ble_eq_true rfl)
set_option maxRecDepth 100000 in
set_option maxHeartbeats 4000000 in
theorem c_X4_change_lo (l : Launch) (hlt : l.stackTraces = false) (g : k_g) (ad : k_AD) (t : k_T) (j : Nat) (z : Int32) (hj : j < 10) (hz : z < 0) : vx_Met l yX4_change wsX4_change rm_X4_change (va_Pc [.ref (ad 0 0), .int (nI j), .int z] (k_I g (k_ct g ad t) ad)) (va_Qv (fun _ => False) (fun u U => k_H g ad u U.heap) (k_A g)) (vx_X (fun u => u = t) (fun E u U => E = "java/lang/IllegalArgumentException" ∧ k_H g ad u U.heap) (k_A g)) 3 18 (k_A g) := by
  refine k_metX (cc := cX4_change) (maxL := 4) (ret := (some .int)) (by decide) rfl (Nat.le_of_ble_eq_true rfl) (fun p e s m args below meth c Q ls hQ hx hb hr hml hts hown hlk hin hout hK hZ hN hW hS hl => ?_)
  have hown : s.vm.findClass RX4 = some m.cls := hown
  have hW : k_H g ad t s.heap := hW
  have hl : lv_has ls 4 [(0, .ref (ad 0 0)), (1, .int (nI j)), (2, .int z)] := hl
  have hatIA : ∀ w ∈ (vx_atS RX4 42 "java/lang/IllegalArgumentException" ["java/lang/RuntimeException", "java/lang/Exception"]).filter goodWord, w ∈ wsX4_change := by decide +kernel
  refine lv_iload_n hx hb dX4_change_0 rfl (lv_at hl 1 rfl) ?_
  refine k_cv (va_runS (As := [.int (nI j)]) (rest := []) ⟨hx, hb, hml, hown, hts⟩ (c_X4_requireFile l hlt g ad t j (by omega)) (va_cwS 1 hts gX4_change_X4_requireFile rfl rfl rfl (by decide +kernel) ⟨(Nat.le_of_ble_eq_true rfl), (Nat.le_of_ble_eq_true rfl)⟩) ⟨k_blind, fun U hU hw => ⟨rfl, k_I.of hK hZ hN hS hW hU hw⟩⟩ rfl rfl hl.1 rfl (lv_room (Nat.le_of_ble_eq_true rfl)) dX4_change_1 ⟨(Nat.le_of_ble_eq_true rfl), (Nat.le_of_ble_eq_true rfl)⟩) hS (fun u H locs hpo hW hS => ?_)
  have hu9 := hpo.symm; subst hu9
  refine lv_iload_n hx hb dX4_change_4 rfl (lv_at hl 2 rfl) ?_
  refine lv_if_lt (tgt := 14) hx hb dX4_change_5 (by decide) (fun h_5 => ?_) (fun h_5 => absurd h_5 (fun q => q hz))
  exact k_throw (text := "content is out of range") hQ hout hx hb hlt hml hlk hown hts (by decide) (by decide +kernel) (by decide +kernel) hatIA k_badIA k_goodIA_38 (by decide +kernel) (by decide +kernel) hK hZ hS hW hl rfl dX4_change_14 dX4_change_17 dX4_change_18 dX4_change_20 dX4_change_23 (Nat.le_of_ble_eq_true rfl) (Nat.le_of_ble_eq_true rfl) (Nat.le_of_ble_eq_true rfl) (Nat.le_of_ble_eq_true rfl) (Nat.le_of_ble_eq_true rfl) (Nat.le_of_ble_eq_true rfl)
set_option maxRecDepth 100000 in
set_option maxHeartbeats 4000000 in
theorem c_X4_change_hi (l : Launch) (hlt : l.stackTraces = false) (g : k_g) (ad : k_AD) (t : k_T) (j : Nat) (z : Int32) (hj : j < 10) (hz : nI 99 < z) : vx_Met l yX4_change wsX4_change rm_X4_change (va_Pc [.ref (ad 0 0), .int (nI j), .int z] (k_I g (k_ct g ad t) ad)) (va_Qv (fun _ => False) (fun u U => k_H g ad u U.heap) (k_A g)) (vx_X (fun u => u = t) (fun E u U => E = "java/lang/IllegalArgumentException" ∧ k_H g ad u U.heap) (k_A g)) 3 18 (k_A g) := by
  refine k_metX (cc := cX4_change) (maxL := 4) (ret := (some .int)) (by decide) rfl (Nat.le_of_ble_eq_true rfl) (fun p e s m args below meth c Q ls hQ hx hb hr hml hts hown hlk hin hout hK hZ hN hW hS hl => ?_)
  have hown : s.vm.findClass RX4 = some m.cls := hown
  have hW : k_H g ad t s.heap := hW
  have hl : lv_has ls 4 [(0, .ref (ad 0 0)), (1, .int (nI j)), (2, .int z)] := hl
  have hatIA : ∀ w ∈ (vx_atS RX4 42 "java/lang/IllegalArgumentException" ["java/lang/RuntimeException", "java/lang/Exception"]).filter goodWord, w ∈ wsX4_change := by decide +kernel
  refine lv_iload_n hx hb dX4_change_0 rfl (lv_at hl 1 rfl) ?_
  refine k_cv (va_runS (As := [.int (nI j)]) (rest := []) ⟨hx, hb, hml, hown, hts⟩ (c_X4_requireFile l hlt g ad t j (by omega)) (va_cwS 1 hts gX4_change_X4_requireFile rfl rfl rfl (by decide +kernel) ⟨(Nat.le_of_ble_eq_true rfl), (Nat.le_of_ble_eq_true rfl)⟩) ⟨k_blind, fun U hU hw => ⟨rfl, k_I.of hK hZ hN hS hW hU hw⟩⟩ rfl rfl hl.1 rfl (lv_room (Nat.le_of_ble_eq_true rfl)) dX4_change_1 ⟨(Nat.le_of_ble_eq_true rfl), (Nat.le_of_ble_eq_true rfl)⟩) hS (fun u H locs hpo hW hS => ?_)
  have hu9 := hpo.symm; subst hu9
  refine lv_iload_n hx hb dX4_change_4 rfl (lv_at hl 2 rfl) ?_
  refine lv_if_lt (tgt := 14) hx hb dX4_change_5 (by decide) (fun h_5 => absurd h_5 (k_gt_nneg hz (by decide))) (fun h_5 => ?_)
  refine lv_iload_n hx hb dX4_change_8 rfl (lv_at hl 2 rfl) ?_
  refine lv_bipush (v := nI 99) hx hb dX4_change_9 (by decide) ?_
  refine lv_icmp_le (tgt := 24) hx hb dX4_change_11 (by decide) (fun h_11 => absurd h_11 (Int32.not_le.mpr hz)) (fun h_11 => ?_)
  exact k_throw (text := "content is out of range") hQ hout hx hb hlt hml hlk hown hts (by decide) (by decide +kernel) (by decide +kernel) hatIA k_badIA k_goodIA_38 (by decide +kernel) (by decide +kernel) hK hZ hS hW hl rfl dX4_change_14 dX4_change_17 dX4_change_18 dX4_change_20 dX4_change_23 (Nat.le_of_ble_eq_true rfl) (Nat.le_of_ble_eq_true rfl) (Nat.le_of_ble_eq_true rfl) (Nat.le_of_ble_eq_true rfl) (Nat.le_of_ble_eq_true rfl) (Nat.le_of_ble_eq_true rfl)
set_option maxRecDepth 100000 in
set_option maxHeartbeats 4000000 in
theorem c_X4_change_bc (l : Launch) (hlt : l.stackTraces = false) (g : k_g) (ad : k_AD) (t : k_T) (j : Nat) (z : Int32) (hj : j < 10) (hz : z < 0 ∨ nI 99 < z) : vx_Met l yX4_change wsX4_change rm_X4_change (va_Pc [.ref (ad 0 0), .int (nI j), .int z] (k_I g (k_ct g ad t) ad)) (va_Qv (fun _ => False) (fun u U => k_H g ad u U.heap) (k_A g)) (vx_X (fun u => u = t) (fun E u U => E = "java/lang/IllegalArgumentException" ∧ k_H g ad u U.heap) (k_A g)) 3 18 (k_A g) := by
  rcases hz with h | h
  · exact c_X4_change_lo l hlt g ad t j z hj h
  · exact c_X4_change_hi l hlt g ad t j z hj h
set_option maxRecDepth 100000 in
set_option maxHeartbeats 4000000 in
theorem c_X4_change_fu (l : Launch) (hlt : l.stackTraces = false) (g : k_g) (ad : k_AD) (t : k_T) (j : Nat) (v : Int32) (hj : j < 10) (hv1 : ¬ v < 0) (hv2 : v ≤ nI 99) (hn : f_n t ≤ 300) (hfull : 300 ≤ f_n t) : vx_Met l yX4_change wsX4_change rm_X4_change (va_Pc [.ref (ad 0 0), .int (nI j), .int v] (k_I g (k_ct g ad t) ad)) (va_Qv (fun _ => False) (fun u U => k_H g ad u U.heap) (k_A g)) (vx_X (fun u => u = t) (fun E u U => E = "java/lang/IllegalStateException" ∧ k_H g ad u U.heap) (k_A g)) 3 18 (k_A g) := by
  refine k_metX (cc := cX4_change) (maxL := 4) (ret := (some .int)) (by decide) rfl (Nat.le_of_ble_eq_true rfl) (fun p e s m args below meth c Q ls hQ hx hb hr hml hts hown hlk hin hout hK hZ hN hW hS hl => ?_)
  have hown : s.vm.findClass RX4 = some m.cls := hown
  have hW : k_H g ad t s.heap := hW
  have hl : lv_has ls 4 [(0, .ref (ad 0 0)), (1, .int (nI j)), (2, .int v)] := hl
  have hinX1 : ∀ w ∈ wsX10, w ∈ wsX4_change := by decide +kernel
  have hinX4 : ∀ w ∈ wsX40, w ∈ wsX4_change := by decide +kernel
  have hatIS : ∀ w ∈ (vx_atS RX4 52 "java/lang/IllegalStateException" ["java/lang/RuntimeException", "java/lang/Exception"]).filter goodWord, w ∈ wsX4_change := by decide +kernel
  refine lv_iload_n hx hb dX4_change_0 rfl (lv_at hl 1 rfl) ?_
  refine k_cv (va_runS (As := [.int (nI j)]) (rest := []) ⟨hx, hb, hml, hown, hts⟩ (c_X4_requireFile l hlt g ad t j (by omega)) (va_cwS 1 hts gX4_change_X4_requireFile rfl rfl rfl (by decide +kernel) ⟨(Nat.le_of_ble_eq_true rfl), (Nat.le_of_ble_eq_true rfl)⟩) ⟨k_blind, fun U hU hw => ⟨rfl, k_I.of hK hZ hN hS hW hU hw⟩⟩ rfl rfl hl.1 rfl (lv_room (Nat.le_of_ble_eq_true rfl)) dX4_change_1 ⟨(Nat.le_of_ble_eq_true rfl), (Nat.le_of_ble_eq_true rfl)⟩) hS (fun u H locs hpo hW hS => ?_)
  have hu9 := hpo.symm; subst hu9
  refine lv_iload_n hx hb dX4_change_4 rfl (lv_at hl 2 rfl) ?_
  refine lv_if_lt (tgt := 14) hx hb dX4_change_5 (by decide) (fun h_5 => absurd h_5 hv1) (fun h_5 => ?_)
  refine lv_iload_n hx hb dX4_change_8 rfl (lv_at hl 2 rfl) ?_
  refine lv_bipush (v := nI 99) hx hb dX4_change_9 (by decide) ?_
  refine lv_icmp_le (tgt := 24) hx hb dX4_change_11 (by decide) (fun h_11 => ?_) (fun h_11 => absurd h_11 (fun q => q hv2))
  refine lv_aload_n hx hb dX4_change_24 rfl (lv_at hl 0 rfl) ?_
  refine k_get (own := RX4) (C := RX4) (T := TX4) (N := 4) hx hb hts hinX4 hown hK hW (kc_0 g ad t) rfl 0 (by decide) (hts (.fieldLink RX4 10 "DrillVault" "files" "LDrillVault$Files;") (by decide +kernel)) rfl (v := .ref (ad 1 0)) rfl dX4_change_25 ?_
  refine k_getN (host := RX4) (index := 45) (own := RX4) (C := RX1) (T := TX1) (N := 4) hx hb hts hinX1 hown hK hW (kc_1 g ad t) rfl 3 (by decide) (by decide +kernel) rfl (v := .int (nI (f_n t))) rfl dX4_change_28 ?_
  refine lv_sipush (v := nI 300) hx hb dX4_change_31 (by decide) ?_
  refine k_icmp_lt (tgt := 47) hx hb (a := f_n t) (b := 300) (by omega) (by decide) dX4_change_34 (by decide) (fun h_34 => absurd h_34 (by omega)) (fun h_34 => ?_)
  exact k_throw (text := "no more changes") hQ hout hx hb hlt hml hlk hown hts (by decide) (by decide +kernel) (by decide +kernel) hatIS k_badIS k_goodIS_48 (by decide +kernel) (by decide +kernel) hK hZ hS hW hl rfl dX4_change_37 dX4_change_40 dX4_change_41 dX4_change_43 dX4_change_46 (Nat.le_of_ble_eq_true rfl) (Nat.le_of_ble_eq_true rfl) (Nat.le_of_ble_eq_true rfl) (Nat.le_of_ble_eq_true rfl) (Nat.le_of_ble_eq_true rfl) (Nat.le_of_ble_eq_true rfl)
set_option maxRecDepth 100000 in
set_option maxHeartbeats 4000000 in
theorem c_X4_change_ok (l : Launch) (hlt : l.stackTraces = false) (g : k_g) (ad : k_AD) (t : k_T) (j : Nat) (v : Int32) (hj : j < 10) (hv1 : ¬ v < 0) (hv2 : v ≤ nI 99) (hfr : f_n t < 300) : Met l yX4_change wsX4_change rm_X4_change (va_Pc [.ref (ad 0 0), .int (nI j), .int v] (k_I g (k_ct g ad t) ad)) (va_Qi (fun r u => r = f_c t j ∧ u = set_f_n (set_f_lt (set_f_lf (set_f_c t (va_up (f_c t) j v)) (va_up (f_lf t) (f_n t) j)) (va_up (f_lt t) (f_n t) v)) (f_n t + 1)) (fun u U => k_H g ad u U.heap) (k_A g)) 3 18 (k_A g) := by
  refine k_met (cc := cX4_change) (maxL := 4) (ret := (some .int)) (by decide) rfl (Nat.le_of_ble_eq_true rfl) (fun p e s m args below meth c Q ls hQ hx hb hr hml hts hown hlk hin hK hZ hN hW hS hl => ?_)
  have hown : s.vm.findClass RX4 = some m.cls := hown
  have hW : k_H g ad t s.heap := hW
  have hl : lv_has ls 4 [(0, .ref (ad 0 0)), (1, .int (nI j)), (2, .int v)] := hl
  have hinX1 : ∀ w ∈ wsX10, w ∈ wsX4_change := by decide +kernel
  have hinX4 : ∀ w ∈ wsX40, w ∈ wsX4_change := by decide +kernel
  refine lv_iload_n hx hb dX4_change_0 rfl (lv_at hl 1 rfl) ?_
  refine k_cv (va_runS (As := [.int (nI j)]) (rest := []) ⟨hx, hb, hml, hown, hts⟩ (c_X4_requireFile l hlt g ad t j (by omega)) (va_cwS 1 hts gX4_change_X4_requireFile rfl rfl rfl (by decide +kernel) ⟨(Nat.le_of_ble_eq_true rfl), (Nat.le_of_ble_eq_true rfl)⟩) ⟨k_blind, fun U hU hw => ⟨rfl, k_I.of hK hZ hN hS hW hU hw⟩⟩ rfl rfl hl.1 rfl (lv_room (Nat.le_of_ble_eq_true rfl)) dX4_change_1 ⟨(Nat.le_of_ble_eq_true rfl), (Nat.le_of_ble_eq_true rfl)⟩) hS (fun u H locs hpo hW hS => ?_)
  have hu9 := hpo.symm; subst hu9
  refine lv_iload_n hx hb dX4_change_4 rfl (lv_at hl 2 rfl) ?_
  refine lv_if_lt (tgt := 14) hx hb dX4_change_5 (by decide) (fun h_5 => absurd h_5 hv1) (fun h_5 => ?_)
  refine lv_iload_n hx hb dX4_change_8 rfl (lv_at hl 2 rfl) ?_
  refine lv_bipush (v := nI 99) hx hb dX4_change_9 (by decide) ?_
  refine lv_icmp_le (tgt := 24) hx hb dX4_change_11 (by decide) (fun h_11 => ?_) (fun h_11 => absurd h_11 (fun q => q hv2))
  refine lv_aload_n hx hb dX4_change_24 rfl (lv_at hl 0 rfl) ?_
  refine k_get (own := RX4) (C := RX4) (T := TX4) (N := 4) hx hb hts hinX4 hown hK hW (kc_0 g ad t) rfl 0 (by decide) (hts (.fieldLink RX4 10 "DrillVault" "files" "LDrillVault$Files;") (by decide +kernel)) rfl (v := .ref (ad 1 0)) rfl dX4_change_25 ?_
  refine k_getN (host := RX4) (index := 45) (own := RX4) (C := RX1) (T := TX1) (N := 4) hx hb hts hinX1 hown hK hW (kc_1 g ad t) rfl 3 (by decide) (by decide +kernel) rfl (v := .int (nI (f_n t))) rfl dX4_change_28 ?_
  refine lv_sipush (v := nI 300) hx hb dX4_change_31 (by decide) ?_
  refine k_icmp_lt (tgt := 47) hx hb (a := f_n t) (b := 300) (by omega) (by decide) dX4_change_34 (by decide) (fun h_34 => ?_) (fun h_34 => absurd h_34 (by omega))
  refine lv_aload_n hx hb dX4_change_47 rfl (lv_at hl 0 rfl) ?_
  refine k_get (own := RX4) (C := RX4) (T := TX4) (N := 4) hx hb hts hinX4 hown hK hW (kc_0 g ad t) rfl 0 (by decide) (hts (.fieldLink RX4 10 "DrillVault" "files" "LDrillVault$Files;") (by decide +kernel)) rfl (v := .ref (ad 1 0)) rfl dX4_change_48 ?_
  refine lv_iload_n hx hb dX4_change_51 rfl (lv_at hl 1 rfl) ?_
  refine k_ci (va_runV (As := [.int (nI j)]) (rest := []) ⟨hx, hb, hml, hown, hts⟩ (c_X1_contentNow l hlt g ad t j (by omega)) (cwV 1 hts gX4_change_X1_contentNow rfl rfl rfl (by decide +kernel) ⟨(Nat.le_of_ble_eq_true rfl), (Nat.le_of_ble_eq_true rfl)⟩) ⟨k_blind, k_recv hK hW (kc_1 g ad t) rfl, fun U hU hw => ⟨rfl, k_I.of hK hZ hN hS hW hU hw⟩⟩ rfl rfl hl.1 rfl (lv_room (Nat.le_of_ble_eq_true rfl)) dX4_change_52 ⟨(Nat.le_of_ble_eq_true rfl), (Nat.le_of_ble_eq_true rfl)⟩) hS (fun r u H locs hpo hW hS => ?_)
  obtain ⟨hr9, hu9⟩ := hpo; replace hu9 := hu9.symm; subst hu9; replace hr9 := hr9.symm; subst hr9
  refine lv_istore_n (lv' := [(3, .int (f_c t j)), (0, .ref (ad 0 0)), (1, .int (nI j)), (2, .int v)]) hx hb dX4_change_55 rfl hl (by decide) rfl (fun ls hl => ?_)
  refine lv_aload_n hx hb dX4_change_56 rfl (lv_at hl 1 rfl) ?_
  refine k_get (own := RX4) (C := RX4) (T := TX4) (N := 4) hx hb hts hinX4 hown hK hW (kc_0 g ad t) rfl 0 (by decide) (hts (.fieldLink RX4 10 "DrillVault" "files" "LDrillVault$Files;") (by decide +kernel)) rfl (v := .ref (ad 1 0)) rfl dX4_change_57 ?_
  refine lv_iload_n hx hb dX4_change_60 rfl (lv_at hl 2 rfl) ?_
  refine lv_iload_n hx hb dX4_change_61 rfl (lv_at hl 3 rfl) ?_
  refine k_cv (va_runV (As := [.int (nI j), .int v]) (rest := []) ⟨hx, hb, hml, hown, hts⟩ (c_X1_write l hlt g ad t j v (by omega) (by omega)) (cwV 2 hts gX4_change_X1_write rfl rfl rfl (by decide +kernel) ⟨(Nat.le_of_ble_eq_true rfl), (Nat.le_of_ble_eq_true rfl)⟩) ⟨k_blind, k_recv hK hW (kc_1 g ad t) rfl, fun U hU hw => ⟨rfl, k_I.of hK hZ hN hS hW hU hw⟩⟩ rfl rfl hl.1 rfl (lv_room (Nat.le_of_ble_eq_true rfl)) dX4_change_62 ⟨(Nat.le_of_ble_eq_true rfl), (Nat.le_of_ble_eq_true rfl)⟩) hS (fun u H locs hpo hW hS => ?_)
  have hu9 := hpo.symm; subst hu9
  have hW : k_H g ad (set_f_n (set_f_lt (set_f_lf (set_f_c t (va_up (f_c t) j v)) (va_up (f_lf t) (f_n t) j)) (va_up (f_lt t) (f_n t) v)) (f_n t + 1)) H := hW
  refine lv_iload_n hx hb dX4_change_65 rfl (lv_at hl 0 rfl) ?_
  exact k_ri hQ hx hb hr hlk hS hW ⟨rfl, rfl⟩ (Nat.le_of_ble_eq_true rfl) (Nat.le_of_ble_eq_true rfl) dX4_change_66
abbrev rm_X4_pass : Room := { frames := 6, cells := 2, slots := 12, locals := 90 }
set_option maxRecDepth 100000 in
set_option maxHeartbeats 4000000 in
theorem c_X4_pass_lo (l : Launch) (hlt : l.stackTraces = false) (g : k_g) (ad : k_AD) (t : k_T) (z : Int32) (hz : z < nI 1) : vx_Met l yX4_pass wsX4_pass rm_X4_pass (va_Pc [.ref (ad 0 0), .int z] (k_I g (k_ct g ad t) ad)) (va_Qv (fun _ => False) (fun u U => k_H g ad u U.heap) (k_A g)) (vx_X (fun u => u = t) (fun E u U => E = "java/lang/IllegalArgumentException" ∧ k_H g ad u U.heap) (k_A g)) 2 12 (k_A g) := by
  refine k_metX (cc := cX4_pass) (maxL := 2) (ret := (some .int)) (by decide) rfl (Nat.le_of_ble_eq_true rfl) (fun p e s m args below meth c Q ls hQ hx hb hr hml hts hown hlk hin hout hK hZ hN hW hS hl => ?_)
  have hown : s.vm.findClass RX4 = some m.cls := hown
  have hW : k_H g ad t s.heap := hW
  have hl : lv_has ls 2 [(0, .ref (ad 0 0)), (1, .int z)] := hl
  have hatIA : ∀ w ∈ (vx_atS RX4 42 "java/lang/IllegalArgumentException" ["java/lang/RuntimeException", "java/lang/Exception"]).filter goodWord, w ∈ wsX4_pass := by decide +kernel
  refine lv_iload_n hx hb dX4_pass_0 rfl (lv_at hl 1 rfl) ?_
  refine lv_iconst (v := nI 1) hx hb dX4_pass_1 (by decide) ?_
  refine lv_icmp_lt (tgt := 11) hx hb dX4_pass_2 (by decide) (fun h_2 => ?_) (fun h_2 => absurd h_2 (fun q => q hz))
  exact k_throw (text := "days is out of range") hQ hout hx hb hlt hml hlk hown hts (by decide) (by decide +kernel) (by decide +kernel) hatIA k_badIA k_goodIA_38 (by decide +kernel) (by decide +kernel) hK hZ hS hW hl rfl dX4_pass_11 dX4_pass_14 dX4_pass_15 dX4_pass_17 dX4_pass_20 (Nat.le_of_ble_eq_true rfl) (Nat.le_of_ble_eq_true rfl) (Nat.le_of_ble_eq_true rfl) (Nat.le_of_ble_eq_true rfl) (Nat.le_of_ble_eq_true rfl) (Nat.le_of_ble_eq_true rfl)
set_option maxRecDepth 100000 in
set_option maxHeartbeats 4000000 in
theorem c_X4_pass_hi (l : Launch) (hlt : l.stackTraces = false) (g : k_g) (ad : k_AD) (t : k_T) (z : Int32) (hz : nI 30 < z) : vx_Met l yX4_pass wsX4_pass rm_X4_pass (va_Pc [.ref (ad 0 0), .int z] (k_I g (k_ct g ad t) ad)) (va_Qv (fun _ => False) (fun u U => k_H g ad u U.heap) (k_A g)) (vx_X (fun u => u = t) (fun E u U => E = "java/lang/IllegalArgumentException" ∧ k_H g ad u U.heap) (k_A g)) 2 12 (k_A g) := by
  refine k_metX (cc := cX4_pass) (maxL := 2) (ret := (some .int)) (by decide) rfl (Nat.le_of_ble_eq_true rfl) (fun p e s m args below meth c Q ls hQ hx hb hr hml hts hown hlk hin hout hK hZ hN hW hS hl => ?_)
  have hown : s.vm.findClass RX4 = some m.cls := hown
  have hW : k_H g ad t s.heap := hW
  have hl : lv_has ls 2 [(0, .ref (ad 0 0)), (1, .int z)] := hl
  have hatIA : ∀ w ∈ (vx_atS RX4 42 "java/lang/IllegalArgumentException" ["java/lang/RuntimeException", "java/lang/Exception"]).filter goodWord, w ∈ wsX4_pass := by decide +kernel
  refine lv_iload_n hx hb dX4_pass_0 rfl (lv_at hl 1 rfl) ?_
  refine lv_iconst (v := nI 1) hx hb dX4_pass_1 (by decide) ?_
  refine lv_icmp_lt (tgt := 11) hx hb dX4_pass_2 (by decide) (fun h_2 => absurd h_2 (Int32.not_lt.mpr (k_gt_ge hz (by decide) (by decide)))) (fun h_2 => ?_)
  refine lv_iload_n hx hb dX4_pass_5 rfl (lv_at hl 1 rfl) ?_
  refine lv_bipush (v := nI 30) hx hb dX4_pass_6 (by decide) ?_
  refine lv_icmp_le (tgt := 21) hx hb dX4_pass_8 (by decide) (fun h_8 => absurd h_8 (Int32.not_le.mpr hz)) (fun h_8 => ?_)
  exact k_throw (text := "days is out of range") hQ hout hx hb hlt hml hlk hown hts (by decide) (by decide +kernel) (by decide +kernel) hatIA k_badIA k_goodIA_38 (by decide +kernel) (by decide +kernel) hK hZ hS hW hl rfl dX4_pass_11 dX4_pass_14 dX4_pass_15 dX4_pass_17 dX4_pass_20 (Nat.le_of_ble_eq_true rfl) (Nat.le_of_ble_eq_true rfl) (Nat.le_of_ble_eq_true rfl) (Nat.le_of_ble_eq_true rfl) (Nat.le_of_ble_eq_true rfl) (Nat.le_of_ble_eq_true rfl)
set_option maxRecDepth 100000 in
set_option maxHeartbeats 4000000 in
theorem c_X4_pass_b (l : Launch) (hlt : l.stackTraces = false) (g : k_g) (ad : k_AD) (t : k_T) (z : Int32) (hz : z < nI 1 ∨ nI 30 < z) : vx_Met l yX4_pass wsX4_pass rm_X4_pass (va_Pc [.ref (ad 0 0), .int z] (k_I g (k_ct g ad t) ad)) (va_Qv (fun _ => False) (fun u U => k_H g ad u U.heap) (k_A g)) (vx_X (fun u => u = t) (fun E u U => E = "java/lang/IllegalArgumentException" ∧ k_H g ad u U.heap) (k_A g)) 2 12 (k_A g) := by
  rcases hz with h | h
  · exact c_X4_pass_lo l hlt g ad t z h
  · exact c_X4_pass_hi l hlt g ad t z h
set_option maxRecDepth 100000 in
set_option maxHeartbeats 4000000 in
theorem c_X4_pass_is (l : Launch) (hlt : l.stackTraces = false) (g : k_g) (ad : k_AD) (t : k_T) (w : Nat) (hd : x_d t ≤ 360) (h1 : 1 ≤ w) (h2 : w ≤ 30) (h3 : 360 < x_d t + w) : vx_Met l yX4_pass wsX4_pass rm_X4_pass (va_Pc [.ref (ad 0 0), .int (nI w)] (k_I g (k_ct g ad t) ad)) (va_Qv (fun _ => False) (fun u U => k_H g ad u U.heap) (k_A g)) (vx_X (fun u => u = t) (fun E u U => E = "java/lang/IllegalStateException" ∧ k_H g ad u U.heap) (k_A g)) 2 12 (k_A g) := by
  refine k_metX (cc := cX4_pass) (maxL := 2) (ret := (some .int)) (by decide) rfl (Nat.le_of_ble_eq_true rfl) (fun p e s m args below meth c Q ls hQ hx hb hr hml hts hown hlk hin hout hK hZ hN hW hS hl => ?_)
  have hown : s.vm.findClass RX4 = some m.cls := hown
  have hW : k_H g ad t s.heap := hW
  have hl : lv_has ls 2 [(0, .ref (ad 0 0)), (1, .int (nI w))] := hl
  have hinX4 : ∀ w ∈ wsX40, w ∈ wsX4_pass := by decide +kernel
  have hatIS : ∀ w ∈ (vx_atS RX4 52 "java/lang/IllegalStateException" ["java/lang/RuntimeException", "java/lang/Exception"]).filter goodWord, w ∈ wsX4_pass := by decide +kernel
  refine lv_iload_n hx hb dX4_pass_0 rfl (lv_at hl 1 rfl) ?_
  refine lv_iconst (v := nI 1) hx hb dX4_pass_1 (by decide) ?_
  refine k_icmp_lt (tgt := 11) hx hb (a := w) (b := 1) (by omega) (by decide) dX4_pass_2 (by decide) (fun h_2 => absurd h_2 (by omega)) (fun h_2 => ?_)
  refine lv_iload_n hx hb dX4_pass_5 rfl (lv_at hl 1 rfl) ?_
  refine lv_bipush (v := nI 30) hx hb dX4_pass_6 (by decide) ?_
  refine k_icmp_le (tgt := 21) hx hb (a := w) (b := 30) (by omega) (by decide) dX4_pass_8 (by decide) (fun h_8 => ?_) (fun h_8 => absurd h_8 (by omega))
  refine lv_aload_n hx hb dX4_pass_21 rfl (lv_at hl 0 rfl) ?_
  refine k_get (own := RX4) (C := RX4) (T := TX4) (N := 4) hx hb hts hinX4 hown hK hW (kc_0 g ad t) rfl 3 (by decide) (hts (.fieldLink RX4 30 "DrillVault" "today" "I") (by decide +kernel)) rfl (v := .int (nI (x_d t))) rfl dX4_pass_22 ?_
  refine lv_iload_n hx hb dX4_pass_25 rfl (lv_at hl 1 rfl) ?_
  refine k_iadd hx hb dX4_pass_26 ?_
  refine lv_sipush (v := nI 360) hx hb dX4_pass_27 (by decide) ?_
  refine k_icmp_le (tgt := 43) hx hb (a := (x_d t) + w) (b := 360) (by omega) (by decide) dX4_pass_30 (by decide) (fun h_30 => absurd h_30 (by omega)) (fun h_30 => ?_)
  exact k_throw (text := "beyond the last day") hQ hout hx hb hlt hml hlk hown hts (by decide) (by decide +kernel) (by decide +kernel) hatIS k_badIS k_goodIS_48 (by decide +kernel) (by decide +kernel) hK hZ hS hW hl rfl dX4_pass_33 dX4_pass_36 dX4_pass_37 dX4_pass_39 dX4_pass_42 (Nat.le_of_ble_eq_true rfl) (Nat.le_of_ble_eq_true rfl) (Nat.le_of_ble_eq_true rfl) (Nat.le_of_ble_eq_true rfl) (Nat.le_of_ble_eq_true rfl) (Nat.le_of_ble_eq_true rfl)
set_option maxRecDepth 100000 in
set_option maxHeartbeats 4000000 in
theorem c_X4_pass_ok (l : Launch) (hlt : l.stackTraces = false) (g : k_g) (ad : k_AD) (t : k_T) (w : Nat) (hd : x_d t ≤ 360) (h1 : 1 ≤ w) (h2 : w ≤ 30) (h3 : x_d t + w ≤ 360) : Met l yX4_pass wsX4_pass rm_X4_pass (va_Pc [.ref (ad 0 0), .int (nI w)] (k_I g (k_ct g ad t) ad)) (va_Qi (fun r u => r = nI (x_d t + w) ∧ u = set_x_d t (x_d t + w)) (fun u U => k_H g ad u U.heap) (k_A g)) 2 12 (k_A g) := by
  refine k_met (cc := cX4_pass) (maxL := 2) (ret := (some .int)) (by decide) rfl (Nat.le_of_ble_eq_true rfl) (fun p e s m args below meth c Q ls hQ hx hb hr hml hts hown hlk hin hK hZ hN hW hS hl => ?_)
  have hown : s.vm.findClass RX4 = some m.cls := hown
  have hW : k_H g ad t s.heap := hW
  have hl : lv_has ls 2 [(0, .ref (ad 0 0)), (1, .int (nI w))] := hl
  have hinX4 : ∀ w ∈ wsX40, w ∈ wsX4_pass := by decide +kernel
  refine lv_iload_n hx hb dX4_pass_0 rfl (lv_at hl 1 rfl) ?_
  refine lv_iconst (v := nI 1) hx hb dX4_pass_1 (by decide) ?_
  refine k_icmp_lt (tgt := 11) hx hb (a := w) (b := 1) (by omega) (by decide) dX4_pass_2 (by decide) (fun h_2 => absurd h_2 (by omega)) (fun h_2 => ?_)
  refine lv_iload_n hx hb dX4_pass_5 rfl (lv_at hl 1 rfl) ?_
  refine lv_bipush (v := nI 30) hx hb dX4_pass_6 (by decide) ?_
  refine k_icmp_le (tgt := 21) hx hb (a := w) (b := 30) (by omega) (by decide) dX4_pass_8 (by decide) (fun h_8 => ?_) (fun h_8 => absurd h_8 (by omega))
  refine lv_aload_n hx hb dX4_pass_21 rfl (lv_at hl 0 rfl) ?_
  refine k_get (own := RX4) (C := RX4) (T := TX4) (N := 4) hx hb hts hinX4 hown hK hW (kc_0 g ad t) rfl 3 (by decide) (hts (.fieldLink RX4 30 "DrillVault" "today" "I") (by decide +kernel)) rfl (v := .int (nI (x_d t))) rfl dX4_pass_22 ?_
  refine lv_iload_n hx hb dX4_pass_25 rfl (lv_at hl 1 rfl) ?_
  refine k_iadd hx hb dX4_pass_26 ?_
  refine lv_sipush (v := nI 360) hx hb dX4_pass_27 (by decide) ?_
  refine k_icmp_le (tgt := 43) hx hb (a := (x_d t) + w) (b := 360) (by omega) (by decide) dX4_pass_30 (by decide) (fun h_30 => ?_) (fun h_30 => absurd h_30 (by omega))
  refine lv_aload_n hx hb dX4_pass_43 rfl (lv_at hl 0 rfl) ?_
  refine lv_dup hx hb dX4_pass_44 rfl ?_
  refine k_get (own := RX4) (C := RX4) (T := TX4) (N := 4) hx hb hts hinX4 hown hK hW (kc_0 g ad t) rfl 3 (by decide) (hts (.fieldLink RX4 30 "DrillVault" "today" "I") (by decide +kernel)) rfl (v := .int (nI (x_d t))) rfl dX4_pass_45 ?_
  refine lv_iload_n hx hb dX4_pass_48 rfl (lv_at hl 1 rfl) ?_
  refine k_iadd hx hb dX4_pass_49 ?_
  refine k_put (own := RX4) (C := RX4) (T := TX4) (N := 4) hx hb hts hinX4 tyX4 tyX4_ok nmX4 hown hK hW hS (kc_0 g ad t) rfl 3 (by decide) (hts (.fieldLink RX4 30 "DrillVault" "today" "I") (by decide +kernel)) rfl rfl (ty := tyX4 3) (v := .int (nI ((x_d t) + w))) (tyX4_ok 3 (by decide)) rfl rfl (Nat.le_of_ble_eq_true rfl) dX4_pass_50 (fun H locs hW hS => ?_)
  have hW : k_H g ad (set_x_d t ((x_d t) + w)) H := kt_x_d (t := t) ((x_d t) + w) rfl hW
  refine lv_aload_n hx hb dX4_pass_53 rfl (lv_at hl 0 rfl) ?_
  refine k_get (own := RX4) (C := RX4) (T := TX4) (N := 4) hx hb hts hinX4 hown hK hW (kc_0 g ad (set_x_d t ((x_d t) + w))) rfl 3 (by decide) (hts (.fieldLink RX4 30 "DrillVault" "today" "I") (by decide +kernel)) rfl (v := .int (nI ((x_d t) + w))) rfl dX4_pass_54 ?_
  exact k_ri hQ hx hb hr hlk hS hW ⟨rfl, rfl⟩ (Nat.le_of_ble_eq_true rfl) (Nat.le_of_ble_eq_true rfl) dX4_pass_57
abbrev rm_X4_full : Room := { frames := 6, cells := 3, slots := 27, locals := 90 }
set_option maxRecDepth 100000 in
set_option maxHeartbeats 4000000 in
theorem c_X4_full_is (l : Launch) (hlt : l.stackTraces = false) (g : k_g) (ad : k_AD) (t : k_T) (hm : s_md t = 60) : vx_Met l yX4_full wsX4_full rm_X4_full (va_Pc [.ref (ad 0 0)] (k_I g (k_ct g ad t) ad)) (va_Qv (fun _ => False) (fun u U => k_H g ad u U.heap) (k_A g)) (vx_X (fun u => u = t) (fun E u U => E = "java/lang/IllegalStateException" ∧ k_H g ad u U.heap) (k_A g)) 3 27 (k_A g) := by
  refine k_metX (cc := cX4_full) (maxL := 2) (ret := (some .int)) (by decide) rfl (Nat.le_of_ble_eq_true rfl) (fun p e s m args below meth c Q ls hQ hx hb hr hml hts hown hlk hin hout hK hZ hN hW hS hl => ?_)
  have hown : s.vm.findClass RX4 = some m.cls := hown
  have hW : k_H g ad t s.heap := hW
  have hl : lv_has ls 2 [(0, .ref (ad 0 0))] := hl
  have hinX3 : ∀ w ∈ wsX30, w ∈ wsX4_full := by decide +kernel
  have hinX4 : ∀ w ∈ wsX40, w ∈ wsX4_full := by decide +kernel
  have hatIS : ∀ w ∈ (vx_atS RX4 52 "java/lang/IllegalStateException" ["java/lang/RuntimeException", "java/lang/Exception"]).filter goodWord, w ∈ wsX4_full := by decide +kernel
  refine lv_aload_n hx hb dX4_full_0 rfl (lv_at hl 0 rfl) ?_
  refine k_get (own := RX4) (C := RX4) (T := TX4) (N := 4) hx hb hts hinX4 hown hK hW (kc_0 g ad t) rfl 1 (by decide) (hts (.fieldLink RX4 19 "DrillVault" "shelf" "LDrillVault$Shelf;") (by decide +kernel)) rfl (v := .ref (ad 5 0)) rfl dX4_full_1 ?_
  refine k_getN (host := RX4) (index := 65) (own := RX4) (C := RX3) (T := TX3) (N := 5) hx hb hts hinX3 hown hK hW (kc_5 g ad t) rfl 1 (by decide) (by decide +kernel) rfl (v := .int (nI (s_md t))) rfl dX4_full_4 ?_
  refine lv_bipush (v := nI 60) hx hb dX4_full_7 (by decide) ?_
  refine k_icmp_lt (tgt := 22) hx hb (a := s_md t) (b := 60) (by omega) (by decide) dX4_full_9 (by decide) (fun h_9 => absurd h_9 (by omega)) (fun h_9 => ?_)
  exact k_throw (text := "no more copies") hQ hout hx hb hlt hml hlk hown hts (by decide) (by decide +kernel) (by decide +kernel) hatIS k_badIS k_goodIS_48 (by decide +kernel) (by decide +kernel) hK hZ hS hW hl rfl dX4_full_12 dX4_full_15 dX4_full_16 dX4_full_18 dX4_full_21 (Nat.le_of_ble_eq_true rfl) (Nat.le_of_ble_eq_true rfl) (Nat.le_of_ble_eq_true rfl) (Nat.le_of_ble_eq_true rfl) (Nat.le_of_ble_eq_true rfl) (Nat.le_of_ble_eq_true rfl)
abbrev rm_X4_increment : Room := { frames := 6, cells := 3, slots := 27, locals := 90 }
set_option maxRecDepth 100000 in
set_option maxHeartbeats 4000000 in
theorem c_X4_increment_i1 (l : Launch) (hlt : l.stackTraces = false) (g : k_g) (ad : k_AD) (t : k_T) (hm : s_md t = 60) (hbs : ∀ k b, k < o_n t → o_b t k = some b → b < o_n t ∧ b < k) : vx_Met l yX4_increment wsX4_increment rm_X4_increment (va_Pc [.ref (ad 0 0)] (k_I g (k_ct g ad t) ad)) (va_Qv (fun _ => False) (fun u U => k_H g ad u U.heap) (k_A g)) (vx_X (fun u => u = t) (fun E u U => E = "java/lang/IllegalStateException" ∧ k_H g ad u U.heap) (k_A g)) 3 27 (k_A g) := by
  refine k_metX (cc := cX4_increment) (maxL := 3) (ret := (some .int)) (by decide) rfl (Nat.le_of_ble_eq_true rfl) (fun p e s m args below meth c Q ls hQ hx hb hr hml hts hown hlk hin hout hK hZ hN hW hS hl => ?_)
  have hown : s.vm.findClass RX4 = some m.cls := hown
  have hW : k_H g ad t s.heap := hW
  have hl : lv_has ls 3 [(0, .ref (ad 0 0))] := hl
  have hinX3 : ∀ w ∈ wsX30, w ∈ wsX4_increment := by decide +kernel
  have hinX4 : ∀ w ∈ wsX40, w ∈ wsX4_increment := by decide +kernel
  have hatIS : ∀ w ∈ (vx_atS RX4 52 "java/lang/IllegalStateException" ["java/lang/RuntimeException", "java/lang/Exception"]).filter goodWord, w ∈ wsX4_increment := by decide +kernel
  refine lv_aload_n hx hb dX4_increment_0 rfl (lv_at hl 0 rfl) ?_
  refine k_get (own := RX4) (C := RX4) (T := TX4) (N := 4) hx hb hts hinX4 hown hK hW (kc_0 g ad t) rfl 1 (by decide) (hts (.fieldLink RX4 19 "DrillVault" "shelf" "LDrillVault$Shelf;") (by decide +kernel)) rfl (v := .ref (ad 5 0)) rfl dX4_increment_1 ?_
  refine k_cq (va_runV (As := []) (rest := []) ⟨hx, hb, hml, hown, hts⟩ (c_X3_latest l hlt g ad t ) (cwV 0 hts gX4_increment_X3_latest rfl rfl rfl (by decide +kernel) ⟨(Nat.le_of_ble_eq_true rfl), (Nat.le_of_ble_eq_true rfl)⟩) ⟨k_blind, k_recv hK hW (kc_5 g ad t) rfl, fun U hU hw => ⟨rfl, k_I.of hK hZ hN hS hW hU hw⟩⟩ rfl rfl hl.1 rfl (lv_room (Nat.le_of_ble_eq_true rfl)) dX4_increment_4 ⟨(Nat.le_of_ble_eq_true rfl), (Nat.le_of_ble_eq_true rfl)⟩) hS (fun r u H locs hpo hW hS => ?_)
  obtain ⟨hr9, hu9⟩ := hpo; replace hu9 := hu9.symm; subst hu9; replace hr9 := hr9.symm; subst hr9
  rcases hob_7 : k_la (s_th t) 60 with _ | b_7
  · refine k_tov (y := .null) (by first | rfl | (rw [hob_7]; rfl)) ?_
    refine lv_astore_nN (lv' := [(1, .null), (0, .ref (ad 0 0))]) hx hb dX4_increment_7 rfl hl (by decide) rfl (fun ls hl => ?_)
    refine lv_aload_n hx hb dX4_increment_8 rfl (lv_at hl 1 rfl) ?_
    refine k_get (own := RX4) (C := RX4) (T := TX4) (N := 4) hx hb hts hinX4 hown hK hW (kc_0 g ad t) rfl 1 (by decide) (hts (.fieldLink RX4 19 "DrillVault" "shelf" "LDrillVault$Shelf;") (by decide +kernel)) rfl (v := .ref (ad 5 0)) rfl dX4_increment_9 ?_
    refine k_getN (host := RX4) (index := 65) (own := RX4) (C := RX3) (T := TX3) (N := 5) hx hb hts hinX3 hown hK hW (kc_5 g ad t) rfl 1 (by decide) (by decide +kernel) rfl (v := .int (nI (s_md t))) rfl dX4_increment_12 ?_
    refine lv_bipush (v := nI 60) hx hb dX4_increment_15 (by decide) ?_
    refine k_icmp_ge (tgt := 24) hx hb (a := s_md t) (b := 60) (by omega) (by decide) dX4_increment_17 (by decide) (fun h_17 => ?_) (fun h_17 => absurd h_17 (by omega))
    exact k_throw (text := "no more copies, or no base") hQ hout hx hb hlt hml hlk hown hts (by decide) (by decide +kernel) (by decide +kernel) hatIS k_badIS k_goodIS_48 (by decide +kernel) (by decide +kernel) hK hZ hS hW hl rfl dX4_increment_24 dX4_increment_27 dX4_increment_28 dX4_increment_30 dX4_increment_33 (Nat.le_of_ble_eq_true rfl) (Nat.le_of_ble_eq_true rfl) (Nat.le_of_ble_eq_true rfl) (Nat.le_of_ble_eq_true rfl) (Nat.le_of_ble_eq_true rfl) (Nat.le_of_ble_eq_true rfl)
  · refine k_tov (y := .ref (ad 25 b_7)) (by first | rfl | (rw [hob_7]; rfl)) ?_
    refine lv_astore_n (lv' := [(1, .ref (ad 25 b_7)), (0, .ref (ad 0 0))]) hx hb dX4_increment_7 rfl hl (by decide) rfl (fun ls hl => ?_)
    refine lv_aload_n hx hb dX4_increment_8 rfl (lv_at hl 1 rfl) ?_
    refine k_get (own := RX4) (C := RX4) (T := TX4) (N := 4) hx hb hts hinX4 hown hK hW (kc_0 g ad t) rfl 1 (by decide) (hts (.fieldLink RX4 19 "DrillVault" "shelf" "LDrillVault$Shelf;") (by decide +kernel)) rfl (v := .ref (ad 5 0)) rfl dX4_increment_9 ?_
    refine k_getN (host := RX4) (index := 65) (own := RX4) (C := RX3) (T := TX3) (N := 5) hx hb hts hinX3 hown hK hW (kc_5 g ad t) rfl 1 (by decide) (by decide +kernel) rfl (v := .int (nI (s_md t))) rfl dX4_increment_12 ?_
    refine lv_bipush (v := nI 60) hx hb dX4_increment_15 (by decide) ?_
    refine k_icmp_ge (tgt := 24) hx hb (a := s_md t) (b := 60) (by omega) (by decide) dX4_increment_17 (by decide) (fun h_17 => ?_) (fun h_17 => absurd h_17 (by omega))
    exact k_throw (text := "no more copies, or no base") hQ hout hx hb hlt hml hlk hown hts (by decide) (by decide +kernel) (by decide +kernel) hatIS k_badIS k_goodIS_48 (by decide +kernel) (by decide +kernel) hK hZ hS hW hl rfl dX4_increment_24 dX4_increment_27 dX4_increment_28 dX4_increment_30 dX4_increment_33 (Nat.le_of_ble_eq_true rfl) (Nat.le_of_ble_eq_true rfl) (Nat.le_of_ble_eq_true rfl) (Nat.le_of_ble_eq_true rfl) (Nat.le_of_ble_eq_true rfl) (Nat.le_of_ble_eq_true rfl)
set_option maxRecDepth 100000 in
set_option maxHeartbeats 4000000 in
theorem c_X4_increment_i2 (l : Launch) (hlt : l.stackTraces = false) (g : k_g) (ad : k_AD) (t : k_T) (hm : s_md t < 60) (hla : k_la (s_th t) 60 = none) : vx_Met l yX4_increment wsX4_increment rm_X4_increment (va_Pc [.ref (ad 0 0)] (k_I g (k_ct g ad t) ad)) (va_Qv (fun _ => False) (fun u U => k_H g ad u U.heap) (k_A g)) (vx_X (fun u => u = t) (fun E u U => E = "java/lang/IllegalStateException" ∧ k_H g ad u U.heap) (k_A g)) 3 27 (k_A g) := by
  refine k_metX (cc := cX4_increment) (maxL := 3) (ret := (some .int)) (by decide) rfl (Nat.le_of_ble_eq_true rfl) (fun p e s m args below meth c Q ls hQ hx hb hr hml hts hown hlk hin hout hK hZ hN hW hS hl => ?_)
  have hown : s.vm.findClass RX4 = some m.cls := hown
  have hW : k_H g ad t s.heap := hW
  have hl : lv_has ls 3 [(0, .ref (ad 0 0))] := hl
  have hinX3 : ∀ w ∈ wsX30, w ∈ wsX4_increment := by decide +kernel
  have hinX4 : ∀ w ∈ wsX40, w ∈ wsX4_increment := by decide +kernel
  have hatIS : ∀ w ∈ (vx_atS RX4 52 "java/lang/IllegalStateException" ["java/lang/RuntimeException", "java/lang/Exception"]).filter goodWord, w ∈ wsX4_increment := by decide +kernel
  refine lv_aload_n hx hb dX4_increment_0 rfl (lv_at hl 0 rfl) ?_
  refine k_get (own := RX4) (C := RX4) (T := TX4) (N := 4) hx hb hts hinX4 hown hK hW (kc_0 g ad t) rfl 1 (by decide) (hts (.fieldLink RX4 19 "DrillVault" "shelf" "LDrillVault$Shelf;") (by decide +kernel)) rfl (v := .ref (ad 5 0)) rfl dX4_increment_1 ?_
  refine k_cq (va_runV (As := []) (rest := []) ⟨hx, hb, hml, hown, hts⟩ (c_X3_latest l hlt g ad t ) (cwV 0 hts gX4_increment_X3_latest rfl rfl rfl (by decide +kernel) ⟨(Nat.le_of_ble_eq_true rfl), (Nat.le_of_ble_eq_true rfl)⟩) ⟨k_blind, k_recv hK hW (kc_5 g ad t) rfl, fun U hU hw => ⟨rfl, k_I.of hK hZ hN hS hW hU hw⟩⟩ rfl rfl hl.1 rfl (lv_room (Nat.le_of_ble_eq_true rfl)) dX4_increment_4 ⟨(Nat.le_of_ble_eq_true rfl), (Nat.le_of_ble_eq_true rfl)⟩) hS (fun r u H locs hpo hW hS => ?_)
  obtain ⟨hr9, hu9⟩ := hpo; replace hu9 := hu9.symm; subst hu9; replace hr9 := hr9.symm; subst hr9
  refine k_tov (y := .null) (by first | rfl | (rw [hla]; rfl)) ?_
  refine lv_astore_nN (lv' := [(1, .null), (0, .ref (ad 0 0))]) hx hb dX4_increment_7 rfl hl (by decide) rfl (fun ls hl => ?_)
  refine lv_aload_n hx hb dX4_increment_8 rfl (lv_at hl 1 rfl) ?_
  refine k_get (own := RX4) (C := RX4) (T := TX4) (N := 4) hx hb hts hinX4 hown hK hW (kc_0 g ad t) rfl 1 (by decide) (hts (.fieldLink RX4 19 "DrillVault" "shelf" "LDrillVault$Shelf;") (by decide +kernel)) rfl (v := .ref (ad 5 0)) rfl dX4_increment_9 ?_
  refine k_getN (host := RX4) (index := 65) (own := RX4) (C := RX3) (T := TX3) (N := 5) hx hb hts hinX3 hown hK hW (kc_5 g ad t) rfl 1 (by decide) (by decide +kernel) rfl (v := .int (nI (s_md t))) rfl dX4_increment_12 ?_
  refine lv_bipush (v := nI 60) hx hb dX4_increment_15 (by decide) ?_
  refine k_icmp_ge (tgt := 24) hx hb (a := s_md t) (b := 60) (by omega) (by decide) dX4_increment_17 (by decide) (fun h_17 => absurd h_17 (by omega)) (fun h_17 => ?_)
  refine lv_aload_nN hx hb dX4_increment_20 rfl (lv_at hl 0 rfl) ?_
  refine lv_ifnonnullN hx hb dX4_increment_21 ?_
  exact k_throw (text := "no more copies, or no base") hQ hout hx hb hlt hml hlk hown hts (by decide) (by decide +kernel) (by decide +kernel) hatIS k_badIS k_goodIS_48 (by decide +kernel) (by decide +kernel) hK hZ hS hW hl rfl dX4_increment_24 dX4_increment_27 dX4_increment_28 dX4_increment_30 dX4_increment_33 (Nat.le_of_ble_eq_true rfl) (Nat.le_of_ble_eq_true rfl) (Nat.le_of_ble_eq_true rfl) (Nat.le_of_ble_eq_true rfl) (Nat.le_of_ble_eq_true rfl) (Nat.le_of_ble_eq_true rfl)
set_option maxRecDepth 100000 in
set_option maxHeartbeats 4000000 in
theorem c_X4_increment_is (l : Launch) (hlt : l.stackTraces = false) (g : k_g) (ad : k_AD) (t : k_T) (hm : s_md t ≤ 60) (hbs : ∀ k b, k < o_n t → o_b t k = some b → b < o_n t ∧ b < k) (hz : s_md t = 60 ∨ k_la (s_th t) 60 = none) : vx_Met l yX4_increment wsX4_increment rm_X4_increment (va_Pc [.ref (ad 0 0)] (k_I g (k_ct g ad t) ad)) (va_Qv (fun _ => False) (fun u U => k_H g ad u U.heap) (k_A g)) (vx_X (fun u => u = t) (fun E u U => E = "java/lang/IllegalStateException" ∧ k_H g ad u U.heap) (k_A g)) 3 27 (k_A g) := by
  rcases Nat.lt_or_ge (s_md t) 60 with h | h
  · rcases hz with h2 | h2
    · exact absurd h2 (by omega)
    · exact c_X4_increment_i2 l hlt g ad t h h2
  · exact c_X4_increment_i1 l hlt g ad t (by omega) hbs
abbrev rm_X4_damage : Room := { frames := 7, cells := 1, slots := 6, locals := 112 }
set_option maxRecDepth 100000 in
set_option maxHeartbeats 4000000 in
theorem c_X4_damage_b (l : Launch) (hlt : l.stackTraces = false) (g : k_g) (ad : k_AD) (t : k_T) (z : Int32) (hz : z < 0 ∨ nI 60 ≤ z ∨ ∃ j, j < 60 ∧ z = nI j ∧ s_th t j = false) : vx_Met l yX4_damage wsX4_damage rm_X4_damage (va_Pc [.ref (ad 0 0), .int z] (k_I g (k_ct g ad t) ad)) (va_Qv (fun _ => False) (fun u U => k_H g ad u U.heap) (k_A g)) (vx_X (fun u => u = t) (fun E u U => E = "java/lang/IndexOutOfBoundsException" ∧ k_H g ad u U.heap) (k_A g)) 1 6 (k_A g) := by
  refine k_metX (cc := cX4_damage) (maxL := 3) (ret := (some .int)) (by decide) rfl (Nat.le_of_ble_eq_true rfl) (fun p e s m args below meth c Q ls hQ hx hb hr hml hts hown hlk hin hout hK hZ hN hW hS hl => ?_)
  have hown : s.vm.findClass RX4 = some m.cls := hown
  have hW : k_H g ad t s.heap := hW
  have hl : lv_has ls 3 [(0, .ref (ad 0 0)), (1, .int z)] := hl
  refine lv_aload_n hx hb dX4_damage_0 rfl (lv_at hl 0 rfl) ?_
  refine lv_iload_n hx hb dX4_damage_1 rfl (lv_at hl 1 rfl) ?_
  exact k_xv hQ hout hlk (vx_runV (As := [.int z]) (rest := []) ⟨hx, hb, hml, hown, hts⟩ (c_X4_requireCopy_b l hlt g ad t z hz) (cwV 1 hts gX4_damage_X4_requireCopy rfl rfl rfl (by decide +kernel) ⟨(Nat.le_of_ble_eq_true rfl), (Nat.le_of_ble_eq_true rfl)⟩) ⟨k_blind, k_recv hK hW (kc_0 g ad t) rfl, fun U hU hw => ⟨rfl, k_I.of hK hZ hN hS hW hU hw⟩⟩ rfl rfl hl.1 rfl (lv_room (Nat.le_of_ble_eq_true rfl)) dX4_damage_2 ⟨(Nat.le_of_ble_eq_true rfl), (Nat.le_of_ble_eq_true rfl)⟩) (fun _ h => h) hS (Nat.le_of_ble_eq_true rfl) (Nat.le_of_ble_eq_true rfl)
abbrev rm_X4_drill : Room := { frames := 7, cells := 1, slots := 6, locals := 112 }
set_option maxRecDepth 100000 in
set_option maxHeartbeats 4000000 in
theorem c_X4_drill_b (l : Launch) (hlt : l.stackTraces = false) (g : k_g) (ad : k_AD) (t : k_T) (z : Int32) (hz : z < 0 ∨ nI 60 ≤ z ∨ ∃ j, j < 60 ∧ z = nI j ∧ s_th t j = false) : vx_Met l yX4_drill wsX4_drill rm_X4_drill (va_Pc [.ref (ad 0 0), .int z] (k_I g (k_ct g ad t) ad)) (va_Qv (fun _ => False) (fun u U => k_H g ad u U.heap) (k_A g)) (vx_X (fun u => u = t) (fun E u U => E = "java/lang/IndexOutOfBoundsException" ∧ k_H g ad u U.heap) (k_A g)) 1 6 (k_A g) := by
  refine k_metX (cc := cX4_drill) (maxL := 4) (ret := (some .int)) (by decide) rfl (Nat.le_of_ble_eq_true rfl) (fun p e s m args below meth c Q ls hQ hx hb hr hml hts hown hlk hin hout hK hZ hN hW hS hl => ?_)
  have hown : s.vm.findClass RX4 = some m.cls := hown
  have hW : k_H g ad t s.heap := hW
  have hl : lv_has ls 4 [(0, .ref (ad 0 0)), (1, .int z)] := hl
  refine lv_aload_n hx hb dX4_drill_0 rfl (lv_at hl 0 rfl) ?_
  refine lv_iload_n hx hb dX4_drill_1 rfl (lv_at hl 1 rfl) ?_
  exact k_xv hQ hout hlk (vx_runV (As := [.int z]) (rest := []) ⟨hx, hb, hml, hown, hts⟩ (c_X4_requireCopy_b l hlt g ad t z hz) (cwV 1 hts gX4_drill_X4_requireCopy rfl rfl rfl (by decide +kernel) ⟨(Nat.le_of_ble_eq_true rfl), (Nat.le_of_ble_eq_true rfl)⟩) ⟨k_blind, k_recv hK hW (kc_0 g ad t) rfl, fun U hU hw => ⟨rfl, k_I.of hK hZ hN hS hW hU hw⟩⟩ rfl rfl hl.1 rfl (lv_room (Nat.le_of_ble_eq_true rfl)) dX4_drill_2 ⟨(Nat.le_of_ble_eq_true rfl), (Nat.le_of_ble_eq_true rfl)⟩) (fun _ h => h) hS (Nat.le_of_ble_eq_true rfl) (Nat.le_of_ble_eq_true rfl)
abbrev rm_X4_dayOf : Room := { frames := 7, cells := 1, slots := 6, locals := 112 }
set_option maxRecDepth 100000 in
set_option maxHeartbeats 4000000 in
theorem c_X4_dayOf_b (l : Launch) (hlt : l.stackTraces = false) (g : k_g) (ad : k_AD) (t : k_T) (z : Int32) (hz : z < 0 ∨ nI 60 ≤ z ∨ ∃ j, j < 60 ∧ z = nI j ∧ s_th t j = false) : vx_Met l yX4_dayOf wsX4_dayOf rm_X4_dayOf (va_Pc [.ref (ad 0 0), .int z] (k_I g (k_ct g ad t) ad)) (va_Qv (fun _ => False) (fun u U => k_H g ad u U.heap) (k_A g)) (vx_X (fun u => u = t) (fun E u U => E = "java/lang/IndexOutOfBoundsException" ∧ k_H g ad u U.heap) (k_A g)) 1 6 (k_A g) := by
  refine k_metX (cc := cX4_dayOf) (maxL := 2) (ret := (some .int)) (by decide) rfl (Nat.le_of_ble_eq_true rfl) (fun p e s m args below meth c Q ls hQ hx hb hr hml hts hown hlk hin hout hK hZ hN hW hS hl => ?_)
  have hown : s.vm.findClass RX4 = some m.cls := hown
  have hW : k_H g ad t s.heap := hW
  have hl : lv_has ls 2 [(0, .ref (ad 0 0)), (1, .int z)] := hl
  refine lv_aload_n hx hb dX4_dayOf_0 rfl (lv_at hl 0 rfl) ?_
  refine lv_iload_n hx hb dX4_dayOf_1 rfl (lv_at hl 1 rfl) ?_
  exact k_xv hQ hout hlk (vx_runV (As := [.int z]) (rest := []) ⟨hx, hb, hml, hown, hts⟩ (c_X4_requireCopy_b l hlt g ad t z hz) (cwV 1 hts gX4_dayOf_X4_requireCopy rfl rfl rfl (by decide +kernel) ⟨(Nat.le_of_ble_eq_true rfl), (Nat.le_of_ble_eq_true rfl)⟩) ⟨k_blind, k_recv hK hW (kc_0 g ad t) rfl, fun U hU hw => ⟨rfl, k_I.of hK hZ hN hS hW hU hw⟩⟩ rfl rfl hl.1 rfl (lv_room (Nat.le_of_ble_eq_true rfl)) dX4_dayOf_2 ⟨(Nat.le_of_ble_eq_true rfl), (Nat.le_of_ble_eq_true rfl)⟩) (fun _ h => h) hS (Nat.le_of_ble_eq_true rfl) (Nat.le_of_ble_eq_true rfl)
abbrev rm_X4_baseOf : Room := { frames := 7, cells := 1, slots := 6, locals := 112 }
set_option maxRecDepth 100000 in
set_option maxHeartbeats 4000000 in
theorem c_X4_baseOf_b (l : Launch) (hlt : l.stackTraces = false) (g : k_g) (ad : k_AD) (t : k_T) (z : Int32) (hz : z < 0 ∨ nI 60 ≤ z ∨ ∃ j, j < 60 ∧ z = nI j ∧ s_th t j = false) : vx_Met l yX4_baseOf wsX4_baseOf rm_X4_baseOf (va_Pc [.ref (ad 0 0), .int z] (k_I g (k_ct g ad t) ad)) (va_Qv (fun _ => False) (fun u U => k_H g ad u U.heap) (k_A g)) (vx_X (fun u => u = t) (fun E u U => E = "java/lang/IndexOutOfBoundsException" ∧ k_H g ad u U.heap) (k_A g)) 1 6 (k_A g) := by
  refine k_metX (cc := cX4_baseOf) (maxL := 3) (ret := (some .int)) (by decide) rfl (Nat.le_of_ble_eq_true rfl) (fun p e s m args below meth c Q ls hQ hx hb hr hml hts hown hlk hin hout hK hZ hN hW hS hl => ?_)
  have hown : s.vm.findClass RX4 = some m.cls := hown
  have hW : k_H g ad t s.heap := hW
  have hl : lv_has ls 3 [(0, .ref (ad 0 0)), (1, .int z)] := hl
  refine lv_aload_n hx hb dX4_baseOf_0 rfl (lv_at hl 0 rfl) ?_
  refine lv_iload_n hx hb dX4_baseOf_1 rfl (lv_at hl 1 rfl) ?_
  exact k_xv hQ hout hlk (vx_runV (As := [.int z]) (rest := []) ⟨hx, hb, hml, hown, hts⟩ (c_X4_requireCopy_b l hlt g ad t z hz) (cwV 1 hts gX4_baseOf_X4_requireCopy rfl rfl rfl (by decide +kernel) ⟨(Nat.le_of_ble_eq_true rfl), (Nat.le_of_ble_eq_true rfl)⟩) ⟨k_blind, k_recv hK hW (kc_0 g ad t) rfl, fun U hU hw => ⟨rfl, k_I.of hK hZ hN hS hW hU hw⟩⟩ rfl rfl hl.1 rfl (lv_room (Nat.le_of_ble_eq_true rfl)) dX4_baseOf_2 ⟨(Nat.le_of_ble_eq_true rfl), (Nat.le_of_ble_eq_true rfl)⟩) (fun _ h => h) hS (Nat.le_of_ble_eq_true rfl) (Nat.le_of_ble_eq_true rfl)
abbrev rm_X4_keeps : Room := { frames := 7, cells := 1, slots := 6, locals := 112 }
set_option maxRecDepth 100000 in
set_option maxHeartbeats 4000000 in
theorem c_X4_keeps_b (l : Launch) (hlt : l.stackTraces = false) (g : k_g) (ad : k_AD) (t : k_T) (z : Int32) (hz : z < 0 ∨ nI 60 ≤ z ∨ ∃ j, j < 60 ∧ z = nI j ∧ s_th t j = false) : vx_Met l yX4_keeps wsX4_keeps rm_X4_keeps (va_Pc [.ref (ad 0 0), .int z] (k_I g (k_ct g ad t) ad)) (va_Qv (fun _ => False) (fun u U => k_H g ad u U.heap) (k_A g)) (vx_X (fun u => u = t) (fun E u U => E = "java/lang/IndexOutOfBoundsException" ∧ k_H g ad u U.heap) (k_A g)) 1 6 (k_A g) := by
  refine k_metX (cc := cX4_keeps) (maxL := 2) (ret := (some .int)) (by decide) rfl (Nat.le_of_ble_eq_true rfl) (fun p e s m args below meth c Q ls hQ hx hb hr hml hts hown hlk hin hout hK hZ hN hW hS hl => ?_)
  have hown : s.vm.findClass RX4 = some m.cls := hown
  have hW : k_H g ad t s.heap := hW
  have hl : lv_has ls 2 [(0, .ref (ad 0 0)), (1, .int z)] := hl
  refine lv_aload_n hx hb dX4_keeps_0 rfl (lv_at hl 0 rfl) ?_
  refine lv_iload_n hx hb dX4_keeps_1 rfl (lv_at hl 1 rfl) ?_
  exact k_xv hQ hout hlk (vx_runV (As := [.int z]) (rest := []) ⟨hx, hb, hml, hown, hts⟩ (c_X4_requireCopy_b l hlt g ad t z hz) (cwV 1 hts gX4_keeps_X4_requireCopy rfl rfl rfl (by decide +kernel) ⟨(Nat.le_of_ble_eq_true rfl), (Nat.le_of_ble_eq_true rfl)⟩) ⟨k_blind, k_recv hK hW (kc_0 g ad t) rfl, fun U hU hw => ⟨rfl, k_I.of hK hZ hN hS hW hU hw⟩⟩ rfl rfl hl.1 rfl (lv_room (Nat.le_of_ble_eq_true rfl)) dX4_keeps_2 ⟨(Nat.le_of_ble_eq_true rfl), (Nat.le_of_ble_eq_true rfl)⟩) (fun _ h => h) hS (Nat.le_of_ble_eq_true rfl) (Nat.le_of_ble_eq_true rfl)
abbrev rm_X4_isPromised : Room := { frames := 7, cells := 1, slots := 6, locals := 112 }
set_option maxRecDepth 100000 in
set_option maxHeartbeats 4000000 in
theorem c_X4_isPromised_b (l : Launch) (hlt : l.stackTraces = false) (g : k_g) (ad : k_AD) (t : k_T) (z : Int32) (hz : z < 0 ∨ nI 60 ≤ z ∨ ∃ j, j < 60 ∧ z = nI j ∧ s_th t j = false) : vx_Met l yX4_isPromised wsX4_isPromised rm_X4_isPromised (va_Pc [.ref (ad 0 0), .int z] (k_I g (k_ct g ad t) ad)) (va_Qv (fun _ => False) (fun u U => k_H g ad u U.heap) (k_A g)) (vx_X (fun u => u = t) (fun E u U => E = "java/lang/IndexOutOfBoundsException" ∧ k_H g ad u U.heap) (k_A g)) 1 6 (k_A g) := by
  refine k_metX (cc := cX4_isPromised) (maxL := 3) (ret := (some .boolean)) (by decide) rfl (Nat.le_of_ble_eq_true rfl) (fun p e s m args below meth c Q ls hQ hx hb hr hml hts hown hlk hin hout hK hZ hN hW hS hl => ?_)
  have hown : s.vm.findClass RX4 = some m.cls := hown
  have hW : k_H g ad t s.heap := hW
  have hl : lv_has ls 3 [(0, .ref (ad 0 0)), (1, .int z)] := hl
  refine lv_aload_n hx hb dX4_isPromised_0 rfl (lv_at hl 0 rfl) ?_
  refine lv_iload_n hx hb dX4_isPromised_1 rfl (lv_at hl 1 rfl) ?_
  exact k_xv hQ hout hlk (vx_runV (As := [.int z]) (rest := []) ⟨hx, hb, hml, hown, hts⟩ (c_X4_requireCopy_b l hlt g ad t z hz) (cwV 1 hts gX4_isPromised_X4_requireCopy rfl rfl rfl (by decide +kernel) ⟨(Nat.le_of_ble_eq_true rfl), (Nat.le_of_ble_eq_true rfl)⟩) ⟨k_blind, k_recv hK hW (kc_0 g ad t) rfl, fun U hU hw => ⟨rfl, k_I.of hK hZ hN hS hW hU hw⟩⟩ rfl rfl hl.1 rfl (lv_room (Nat.le_of_ble_eq_true rfl)) dX4_isPromised_2 ⟨(Nat.le_of_ble_eq_true rfl), (Nat.le_of_ble_eq_true rfl)⟩) (fun _ h => h) hS (Nat.le_of_ble_eq_true rfl) (Nat.le_of_ble_eq_true rfl)
abbrev rm_X4_isNeeded : Room := { frames := 7, cells := 1, slots := 6, locals := 112 }
set_option maxRecDepth 100000 in
set_option maxHeartbeats 4000000 in
theorem c_X4_isNeeded_b (l : Launch) (hlt : l.stackTraces = false) (g : k_g) (ad : k_AD) (t : k_T) (z : Int32) (hz : z < 0 ∨ nI 60 ≤ z ∨ ∃ j, j < 60 ∧ z = nI j ∧ s_th t j = false) : vx_Met l yX4_isNeeded wsX4_isNeeded rm_X4_isNeeded (va_Pc [.ref (ad 0 0), .int z] (k_I g (k_ct g ad t) ad)) (va_Qv (fun _ => False) (fun u U => k_H g ad u U.heap) (k_A g)) (vx_X (fun u => u = t) (fun E u U => E = "java/lang/IndexOutOfBoundsException" ∧ k_H g ad u U.heap) (k_A g)) 1 6 (k_A g) := by
  refine k_metX (cc := cX4_isNeeded) (maxL := 3) (ret := (some .boolean)) (by decide) rfl (Nat.le_of_ble_eq_true rfl) (fun p e s m args below meth c Q ls hQ hx hb hr hml hts hown hlk hin hout hK hZ hN hW hS hl => ?_)
  have hown : s.vm.findClass RX4 = some m.cls := hown
  have hW : k_H g ad t s.heap := hW
  have hl : lv_has ls 3 [(0, .ref (ad 0 0)), (1, .int z)] := hl
  refine lv_aload_n hx hb dX4_isNeeded_0 rfl (lv_at hl 0 rfl) ?_
  refine lv_iload_n hx hb dX4_isNeeded_1 rfl (lv_at hl 1 rfl) ?_
  exact k_xv hQ hout hlk (vx_runV (As := [.int z]) (rest := []) ⟨hx, hb, hml, hown, hts⟩ (c_X4_requireCopy_b l hlt g ad t z hz) (cwV 1 hts gX4_isNeeded_X4_requireCopy rfl rfl rfl (by decide +kernel) ⟨(Nat.le_of_ble_eq_true rfl), (Nat.le_of_ble_eq_true rfl)⟩) ⟨k_blind, k_recv hK hW (kc_0 g ad t) rfl, fun U hU hw => ⟨rfl, k_I.of hK hZ hN hS hW hU hw⟩⟩ rfl rfl hl.1 rfl (lv_room (Nat.le_of_ble_eq_true rfl)) dX4_isNeeded_2 ⟨(Nat.le_of_ble_eq_true rfl), (Nat.le_of_ble_eq_true rfl)⟩) (fun _ h => h) hS (Nat.le_of_ble_eq_true rfl) (Nat.le_of_ble_eq_true rfl)
abbrev rm_X4_isProved : Room := { frames := 7, cells := 1, slots := 6, locals := 112 }
set_option maxRecDepth 100000 in
set_option maxHeartbeats 4000000 in
theorem c_X4_isProved_b (l : Launch) (hlt : l.stackTraces = false) (g : k_g) (ad : k_AD) (t : k_T) (z : Int32) (hz : z < 0 ∨ nI 60 ≤ z ∨ ∃ j, j < 60 ∧ z = nI j ∧ s_th t j = false) : vx_Met l yX4_isProved wsX4_isProved rm_X4_isProved (va_Pc [.ref (ad 0 0), .int z] (k_I g (k_ct g ad t) ad)) (va_Qv (fun _ => False) (fun u U => k_H g ad u U.heap) (k_A g)) (vx_X (fun u => u = t) (fun E u U => E = "java/lang/IndexOutOfBoundsException" ∧ k_H g ad u U.heap) (k_A g)) 1 6 (k_A g) := by
  refine k_metX (cc := cX4_isProved) (maxL := 2) (ret := (some .boolean)) (by decide) rfl (Nat.le_of_ble_eq_true rfl) (fun p e s m args below meth c Q ls hQ hx hb hr hml hts hown hlk hin hout hK hZ hN hW hS hl => ?_)
  have hown : s.vm.findClass RX4 = some m.cls := hown
  have hW : k_H g ad t s.heap := hW
  have hl : lv_has ls 2 [(0, .ref (ad 0 0)), (1, .int z)] := hl
  refine lv_aload_n hx hb dX4_isProved_0 rfl (lv_at hl 0 rfl) ?_
  refine lv_iload_n hx hb dX4_isProved_1 rfl (lv_at hl 1 rfl) ?_
  exact k_xv hQ hout hlk (vx_runV (As := [.int z]) (rest := []) ⟨hx, hb, hml, hown, hts⟩ (c_X4_requireCopy_b l hlt g ad t z hz) (cwV 1 hts gX4_isProved_X4_requireCopy rfl rfl rfl (by decide +kernel) ⟨(Nat.le_of_ble_eq_true rfl), (Nat.le_of_ble_eq_true rfl)⟩) ⟨k_blind, k_recv hK hW (kc_0 g ad t) rfl, fun U hU hw => ⟨rfl, k_I.of hK hZ hN hS hW hU hw⟩⟩ rfl rfl hl.1 rfl (lv_room (Nat.le_of_ble_eq_true rfl)) dX4_isProved_2 ⟨(Nat.le_of_ble_eq_true rfl), (Nat.le_of_ble_eq_true rfl)⟩) (fun _ h => h) hS (Nat.le_of_ble_eq_true rfl) (Nat.le_of_ble_eq_true rfl)
set_option maxRecDepth 100000 in
set_option maxHeartbeats 4000000 in
theorem c_X4_damage_ok (l : Launch) (hlt : l.stackTraces = false) (g : k_g) (ad : k_AD) (t : k_T) (j : Nat) (hj : j < 60) (hs : s_th t j = true) (hwf : ∀ j, s_th t j = true → j < o_n t) (hbs : ∀ k b, k < o_n t → o_b t k = some b → b < o_n t ∧ b < k) (hth : ∀ j b, s_th t j = true → o_b t j = some b → s_th t b = true) (hn60 : o_n t ≤ 60) (hon : ∀ j, j < o_n t → o_on t j ≤ 360) (hr1 : s_r1 t ≤ 30) (hr2 : s_r2 t ≤ 30) (hr3 : s_r3 t ≤ 30) : Met l yX4_damage wsX4_damage rm_X4_damage (va_Pc [.ref (ad 0 0), .int (nI j)] (k_I g (k_ct g ad t) ad)) (va_Qi (fun r u => r = nI (k_cb (fun k => ((s_th t) k && (k_Pm (s_th t) (o_pm t) (o_on t) (s_r1 t) (s_r2 t) (s_r3 t)) k) && (k_cl (o_b t) k).any (va_up (o_dm t) j true)) 60) ∧ u = set_o_nd (set_o_pm (set_o_pv (set_o_dm t (va_up (o_dm t) j true)) (va_up (o_pv t) j false)) (k_Pm (s_th t) (o_pm t) (o_on t) (s_r1 t) (s_r2 t) (s_r3 t))) (k_Nm (s_th t) (o_nd t) (k_Pm (s_th t) (o_pm t) (o_on t) (s_r1 t) (s_r2 t) (s_r3 t)) (o_b t))) (fun u U => k_H g ad u U.heap) (k_A g)) 1 6 (k_A g) := by
  refine k_met (cc := cX4_damage) (maxL := 3) (ret := (some .int)) (by decide) rfl (Nat.le_of_ble_eq_true rfl) (fun p e s m args below meth c Q ls hQ hx hb hr hml hts hown hlk hin hK hZ hN hW hS hl => ?_)
  have hown : s.vm.findClass RX4 = some m.cls := hown
  have hW : k_H g ad t s.heap := hW
  have hl : lv_has ls 3 [(0, .ref (ad 0 0)), (1, .int (nI j))] := hl
  have hinX0 : ∀ w ∈ wsX00, w ∈ wsX4_damage := by decide +kernel
  have hinX4 : ∀ w ∈ wsX40, w ∈ wsX4_damage := by decide +kernel
  refine lv_aload_n hx hb dX4_damage_0 rfl (lv_at hl 0 rfl) ?_
  refine lv_iload_n hx hb dX4_damage_1 rfl (lv_at hl 1 rfl) ?_
  refine k_cq (va_runV (As := [.int (nI j)]) (rest := []) ⟨hx, hb, hml, hown, hts⟩ (c_X4_requireCopy l hlt g ad t j (by omega) (by omega)) (cwV 1 hts gX4_damage_X4_requireCopy rfl rfl rfl (by decide +kernel) ⟨(Nat.le_of_ble_eq_true rfl), (Nat.le_of_ble_eq_true rfl)⟩) ⟨k_blind, k_recv hK hW (kc_0 g ad t) rfl, fun U hU hw => ⟨rfl, k_I.of hK hZ hN hS hW hU hw⟩⟩ rfl rfl hl.1 rfl (lv_room (Nat.le_of_ble_eq_true rfl)) dX4_damage_2 ⟨(Nat.le_of_ble_eq_true rfl), (Nat.le_of_ble_eq_true rfl)⟩) hS (fun r u H locs hpo hW hS => ?_)
  obtain ⟨hr9, hu9⟩ := hpo; replace hu9 := hu9.symm; subst hu9; replace hr9 := hr9.symm; subst hr9
  refine k_tov (y := .ref (ad 25 j)) rfl ?_
  refine lv_astore_n (lv' := [(2, .ref (ad 25 j)), (0, .ref (ad 0 0)), (1, .int (nI j))]) hx hb dX4_damage_5 rfl hl (by decide) rfl (fun ls hl => ?_)
  refine lv_aload_n hx hb dX4_damage_6 rfl (lv_at hl 0 rfl) ?_
  refine lv_iconst (v := nI 1) hx hb dX4_damage_7 (by decide) ?_
  refine k_putN (host := RX4) (index := 102) (own := RX4) (C := RX0) (T := TX0) (N := 11) hx hb hts hinX0 tyX0 tyX0_ok nmX0 hown hK hW hS (kc_25 g ad t (hwf _ hs)) rfl 6 (by decide) (by decide +kernel) rfl rfl (ty := tyX0 6) (v := .int (nI 1)) (tyX0_ok 6 (by decide)) rfl rfl (Nat.le_of_ble_eq_true rfl) dX4_damage_8 (fun H locs hW hS => ?_)
  have hW : k_H g ad (set_o_dm t (va_up (o_dm t) j true)) H := kt_o_dm (t := t) j (hwf _ hs) true rfl hW
  refine lv_aload_n hx hb dX4_damage_11 rfl (lv_at hl 0 rfl) ?_
  refine lv_iconst (v := nI 0) hx hb dX4_damage_12 (by decide) ?_
  refine k_putN (host := RX4) (index := 106) (own := RX4) (C := RX0) (T := TX0) (N := 11) hx hb hts hinX0 tyX0 tyX0_ok nmX0 hown hK hW hS (kc_25 g ad (set_o_dm t (va_up (o_dm t) j true)) (hwf _ hs)) rfl 7 (by decide) (by decide +kernel) rfl rfl (ty := tyX0 7) (v := .int (nI 0)) (tyX0_ok 7 (by decide)) rfl rfl (Nat.le_of_ble_eq_true rfl) dX4_damage_13 (fun H locs hW hS => ?_)
  have hW : k_H g ad (set_o_pv (set_o_dm t (va_up (o_dm t) j true)) (va_up (o_pv t) j false)) H := kt_o_pv (t := set_o_dm t (va_up (o_dm t) j true)) j (hwf _ hs) false rfl hW
  refine lv_aload_n hx hb dX4_damage_16 rfl (lv_at hl 1 rfl) ?_
  refine k_get (own := RX4) (C := RX4) (T := TX4) (N := 4) hx hb hts hinX4 hown hK hW (kc_0 g ad (set_o_pv (set_o_dm t (va_up (o_dm t) j true)) (va_up (o_pv t) j false))) rfl 1 (by decide) (hts (.fieldLink RX4 19 "DrillVault" "shelf" "LDrillVault$Shelf;") (by decide +kernel)) rfl (v := .ref (ad 5 0)) rfl dX4_damage_17 ?_
  refine k_ci (va_runV (As := []) (rest := []) ⟨hx, hb, hml, hown, hts⟩ (c_X3_countPromisedButDamaged l hlt g ad (set_o_pv (set_o_dm t (va_up (o_dm t) j true)) (va_up (o_pv t) j false)) hwf hbs hth hn60 hon hr1 hr2 hr3) (cwV 0 hts gX4_damage_X3_countPromisedButDamaged rfl rfl rfl (by decide +kernel) ⟨(Nat.le_of_ble_eq_true rfl), (Nat.le_of_ble_eq_true rfl)⟩) ⟨k_blind, k_recv hK hW (kc_5 g ad (set_o_pv (set_o_dm t (va_up (o_dm t) j true)) (va_up (o_pv t) j false))) rfl, fun U hU hw => ⟨rfl, k_I.of hK hZ hN hS hW hU hw⟩⟩ rfl rfl hl.1 rfl (lv_room (Nat.le_of_ble_eq_true rfl)) dX4_damage_20 ⟨(Nat.le_of_ble_eq_true rfl), (Nat.le_of_ble_eq_true rfl)⟩) hS (fun r u H locs hpo hW hS => ?_)
  obtain ⟨hr9, hu9⟩ := hpo; replace hu9 := hu9.symm; subst hu9; replace hr9 := hr9.symm; subst hr9
  have hW : k_H g ad (set_o_nd (set_o_pm (set_o_pv (set_o_dm t (va_up (o_dm t) j true)) (va_up (o_pv t) j false)) (k_Pm (s_th t) (o_pm t) (o_on t) (s_r1 t) (s_r2 t) (s_r3 t))) (k_Nm (s_th t) (o_nd t) (k_Pm (s_th t) (o_pm t) (o_on t) (s_r1 t) (s_r2 t) (s_r3 t)) (o_b t))) H := hW
  exact k_ri hQ hx hb hr hlk hS hW ⟨rfl, rfl⟩ (Nat.le_of_ble_eq_true rfl) (Nat.le_of_ble_eq_true rfl) dX4_damage_23
set_option maxRecDepth 100000 in
set_option maxHeartbeats 4000000 in
theorem c_X4_drill_ok (l : Launch) (hlt : l.stackTraces = false) (g : k_g) (ad : k_AD) (t : k_T) (j : Nat) (hj : j < 60) (hs : s_th t j = true) (hwf : ∀ j, s_th t j = true → j < o_n t) (hbs : ∀ k b, k < o_n t → o_b t k = some b → b < o_n t ∧ b < k) (ha : (k_cl (o_b t) j).any (o_dm t) = false) : Met l yX4_drill wsX4_drill rm_X4_drill (va_Pc [.ref (ad 0 0), .int (nI j)] (k_I g (k_ct g ad t) ad)) (va_Qi (fun r u => r = nI ((k_cl (o_b t) j).length) ∧ u = set_o_pv t (fun j9 => if (k_cl (o_b t) j).contains j9 = true then true else (o_pv t) j9)) (fun u U => k_H g ad u U.heap) (k_A g)) 1 6 (k_A g) := by
  refine k_met (cc := cX4_drill) (maxL := 4) (ret := (some .int)) (by decide) rfl (Nat.le_of_ble_eq_true rfl) (fun p e s m args below meth c Q ls hQ hx hb hr hml hts hown hlk hin hK hZ hN hW hS hl => ?_)
  have hown : s.vm.findClass RX4 = some m.cls := hown
  have hW : k_H g ad t s.heap := hW
  have hl : lv_has ls 4 [(0, .ref (ad 0 0)), (1, .int (nI j))] := hl
  refine lv_aload_n hx hb dX4_drill_0 rfl (lv_at hl 0 rfl) ?_
  refine lv_iload_n hx hb dX4_drill_1 rfl (lv_at hl 1 rfl) ?_
  refine k_cq (va_runV (As := [.int (nI j)]) (rest := []) ⟨hx, hb, hml, hown, hts⟩ (c_X4_requireCopy l hlt g ad t j (by omega) (by omega)) (cwV 1 hts gX4_drill_X4_requireCopy rfl rfl rfl (by decide +kernel) ⟨(Nat.le_of_ble_eq_true rfl), (Nat.le_of_ble_eq_true rfl)⟩) ⟨k_blind, k_recv hK hW (kc_0 g ad t) rfl, fun U hU hw => ⟨rfl, k_I.of hK hZ hN hS hW hU hw⟩⟩ rfl rfl hl.1 rfl (lv_room (Nat.le_of_ble_eq_true rfl)) dX4_drill_2 ⟨(Nat.le_of_ble_eq_true rfl), (Nat.le_of_ble_eq_true rfl)⟩) hS (fun r u H locs hpo hW hS => ?_)
  obtain ⟨hr9, hu9⟩ := hpo; replace hu9 := hu9.symm; subst hu9; replace hr9 := hr9.symm; subst hr9
  refine k_tov (y := .ref (ad 25 j)) rfl ?_
  refine lv_astore_n (lv' := [(2, .ref (ad 25 j)), (0, .ref (ad 0 0)), (1, .int (nI j))]) hx hb dX4_drill_5 rfl hl (by decide) rfl (fun ls hl => ?_)
  refine lv_aload_n hx hb dX4_drill_6 rfl (lv_at hl 0 rfl) ?_
  refine k_ci (va_runV (As := []) (rest := []) ⟨hx, hb, hml, hown, hts⟩ (c_X0_hasDamagedChain l hlt g ad t j (hwf _ hs) hbs) (cwV 0 hts gX4_drill_X0_hasDamagedChain rfl rfl rfl (by decide +kernel) ⟨(Nat.le_of_ble_eq_true rfl), (Nat.le_of_ble_eq_true rfl)⟩) ⟨k_blind, k_recv hK hW (kc_25 g ad t (hwf _ hs)) rfl, fun U hU hw => ⟨rfl, k_I.of hK hZ hN hS hW hU hw⟩⟩ rfl rfl hl.1 rfl (lv_room (Nat.le_of_ble_eq_true rfl)) dX4_drill_7 ⟨(Nat.le_of_ble_eq_true rfl), (Nat.le_of_ble_eq_true rfl)⟩) hS (fun r u H locs hpo hW hS => ?_)
  obtain ⟨hr9, hu9⟩ := hpo; replace hu9 := hu9.symm; subst hu9; replace hr9 := hr9.symm; subst hr9
  refine k_ifz_ne (tgt := 17) hx hb dX4_drill_10 (by decide) (fun h_10 => absurd h_10 (fun q => absurd (ha.symm.trans q) (by decide))) (fun h_10 => ?_)
  refine lv_iconst (v := nI 1) hx hb dX4_drill_13 (by decide) ?_
  refine lv_goto (tgt := 18) hx hb dX4_drill_14 (by decide) ?_
  refine lv_istore_n (lv' := [(3, .int (nI 1)), (2, .ref (ad 25 j)), (0, .ref (ad 0 0)), (1, .int (nI j))]) hx hb dX4_drill_18 rfl hl (by decide) rfl (fun ls hl => ?_)
  refine lv_aload_n hx hb dX4_drill_19 rfl (lv_at hl 1 rfl) ?_
  refine lv_iload_n hx hb dX4_drill_20 rfl (lv_at hl 0 rfl) ?_
  refine k_cv (va_runV (As := [.int (nI 1)]) (rest := []) ⟨hx, hb, hml, hown, hts⟩ (c_X0_proveChain l hlt g ad t j true (hwf _ hs) hbs) (cwV 1 hts gX4_drill_X0_proveChain rfl rfl rfl (by decide +kernel) ⟨(Nat.le_of_ble_eq_true rfl), (Nat.le_of_ble_eq_true rfl)⟩) ⟨k_blind, k_recv hK hW (kc_25 g ad t (hwf _ hs)) rfl, fun U hU hw => ⟨rfl, k_I.of hK hZ hN hS hW hU hw⟩⟩ rfl rfl hl.1 rfl (lv_room (Nat.le_of_ble_eq_true rfl)) dX4_drill_21 ⟨(Nat.le_of_ble_eq_true rfl), (Nat.le_of_ble_eq_true rfl)⟩) hS (fun u H locs hpo hW hS => ?_)
  have hu9 := hpo.symm; subst hu9
  have hW : k_H g ad (set_o_pv t (fun j9 => if (k_cl (o_b t) j).contains j9 = true then true else (o_pv t) j9)) H := hW
  refine lv_iload_n hx hb dX4_drill_24 rfl (lv_at hl 0 rfl) ?_
  refine lv_if_eq (tgt := 35) hx hb dX4_drill_25 (by decide) (fun h_25 => absurd h_25 (by decide)) (fun h_25 => ?_)
  refine lv_aload_n hx hb dX4_drill_28 rfl (lv_at hl 1 rfl) ?_
  refine k_ci (va_runV (As := []) (rest := []) ⟨hx, hb, hml, hown, hts⟩ (c_X0_chainLength l hlt g ad (set_o_pv t (fun j9 => if (k_cl (o_b t) j).contains j9 = true then true else (o_pv t) j9)) j (hwf _ hs) hbs) (cwV 0 hts gX4_drill_X0_chainLength rfl rfl rfl (by decide +kernel) ⟨(Nat.le_of_ble_eq_true rfl), (Nat.le_of_ble_eq_true rfl)⟩) ⟨k_blind, k_recv hK hW (kc_25 g ad (set_o_pv t (fun j9 => if (k_cl (o_b t) j).contains j9 = true then true else (o_pv t) j9)) (hwf _ hs)) rfl, fun U hU hw => ⟨rfl, k_I.of hK hZ hN hS hW hU hw⟩⟩ rfl rfl hl.1 rfl (lv_room (Nat.le_of_ble_eq_true rfl)) dX4_drill_29 ⟨(Nat.le_of_ble_eq_true rfl), (Nat.le_of_ble_eq_true rfl)⟩) hS (fun r u H locs hpo hW hS => ?_)
  obtain ⟨hr9, hu9⟩ := hpo; replace hu9 := hu9.symm; subst hu9; replace hr9 := hr9.symm; subst hr9
  refine lv_goto (tgt := 36) hx hb dX4_drill_32 (by decide) ?_
  exact k_ri hQ hx hb hr hlk hS hW ⟨rfl, rfl⟩ (Nat.le_of_ble_eq_true rfl) (Nat.le_of_ble_eq_true rfl) dX4_drill_36
set_option maxRecDepth 100000 in
set_option maxHeartbeats 4000000 in
theorem c_X4_drill_no (l : Launch) (hlt : l.stackTraces = false) (g : k_g) (ad : k_AD) (t : k_T) (j : Nat) (hj : j < 60) (hs : s_th t j = true) (hwf : ∀ j, s_th t j = true → j < o_n t) (hbs : ∀ k b, k < o_n t → o_b t k = some b → b < o_n t ∧ b < k) (ha : (k_cl (o_b t) j).any (o_dm t) = true) : Met l yX4_drill wsX4_drill rm_X4_drill (va_Pc [.ref (ad 0 0), .int (nI j)] (k_I g (k_ct g ad t) ad)) (va_Qi (fun r u => r = (-1) ∧ u = set_o_pv t (fun j9 => if (k_cl (o_b t) j).contains j9 = true then false else (o_pv t) j9)) (fun u U => k_H g ad u U.heap) (k_A g)) 1 6 (k_A g) := by
  refine k_met (cc := cX4_drill) (maxL := 4) (ret := (some .int)) (by decide) rfl (Nat.le_of_ble_eq_true rfl) (fun p e s m args below meth c Q ls hQ hx hb hr hml hts hown hlk hin hK hZ hN hW hS hl => ?_)
  have hown : s.vm.findClass RX4 = some m.cls := hown
  have hW : k_H g ad t s.heap := hW
  have hl : lv_has ls 4 [(0, .ref (ad 0 0)), (1, .int (nI j))] := hl
  refine lv_aload_n hx hb dX4_drill_0 rfl (lv_at hl 0 rfl) ?_
  refine lv_iload_n hx hb dX4_drill_1 rfl (lv_at hl 1 rfl) ?_
  refine k_cq (va_runV (As := [.int (nI j)]) (rest := []) ⟨hx, hb, hml, hown, hts⟩ (c_X4_requireCopy l hlt g ad t j (by omega) (by omega)) (cwV 1 hts gX4_drill_X4_requireCopy rfl rfl rfl (by decide +kernel) ⟨(Nat.le_of_ble_eq_true rfl), (Nat.le_of_ble_eq_true rfl)⟩) ⟨k_blind, k_recv hK hW (kc_0 g ad t) rfl, fun U hU hw => ⟨rfl, k_I.of hK hZ hN hS hW hU hw⟩⟩ rfl rfl hl.1 rfl (lv_room (Nat.le_of_ble_eq_true rfl)) dX4_drill_2 ⟨(Nat.le_of_ble_eq_true rfl), (Nat.le_of_ble_eq_true rfl)⟩) hS (fun r u H locs hpo hW hS => ?_)
  obtain ⟨hr9, hu9⟩ := hpo; replace hu9 := hu9.symm; subst hu9; replace hr9 := hr9.symm; subst hr9
  refine k_tov (y := .ref (ad 25 j)) rfl ?_
  refine lv_astore_n (lv' := [(2, .ref (ad 25 j)), (0, .ref (ad 0 0)), (1, .int (nI j))]) hx hb dX4_drill_5 rfl hl (by decide) rfl (fun ls hl => ?_)
  refine lv_aload_n hx hb dX4_drill_6 rfl (lv_at hl 0 rfl) ?_
  refine k_ci (va_runV (As := []) (rest := []) ⟨hx, hb, hml, hown, hts⟩ (c_X0_hasDamagedChain l hlt g ad t j (hwf _ hs) hbs) (cwV 0 hts gX4_drill_X0_hasDamagedChain rfl rfl rfl (by decide +kernel) ⟨(Nat.le_of_ble_eq_true rfl), (Nat.le_of_ble_eq_true rfl)⟩) ⟨k_blind, k_recv hK hW (kc_25 g ad t (hwf _ hs)) rfl, fun U hU hw => ⟨rfl, k_I.of hK hZ hN hS hW hU hw⟩⟩ rfl rfl hl.1 rfl (lv_room (Nat.le_of_ble_eq_true rfl)) dX4_drill_7 ⟨(Nat.le_of_ble_eq_true rfl), (Nat.le_of_ble_eq_true rfl)⟩) hS (fun r u H locs hpo hW hS => ?_)
  obtain ⟨hr9, hu9⟩ := hpo; replace hu9 := hu9.symm; subst hu9; replace hr9 := hr9.symm; subst hr9
  refine k_ifz_ne (tgt := 17) hx hb dX4_drill_10 (by decide) (fun h_10 => ?_) (fun h_10 => absurd h_10 (fun q => absurd (ha.symm.trans q) (by decide)))
  refine lv_iconst (v := nI 0) hx hb dX4_drill_17 (by decide) ?_
  refine lv_istore_n (lv' := [(3, .int (nI 0)), (2, .ref (ad 25 j)), (0, .ref (ad 0 0)), (1, .int (nI j))]) hx hb dX4_drill_18 rfl hl (by decide) rfl (fun ls hl => ?_)
  refine lv_aload_n hx hb dX4_drill_19 rfl (lv_at hl 1 rfl) ?_
  refine lv_iload_n hx hb dX4_drill_20 rfl (lv_at hl 0 rfl) ?_
  refine k_cv (va_runV (As := [.int (nI 0)]) (rest := []) ⟨hx, hb, hml, hown, hts⟩ (c_X0_proveChain l hlt g ad t j false (hwf _ hs) hbs) (cwV 1 hts gX4_drill_X0_proveChain rfl rfl rfl (by decide +kernel) ⟨(Nat.le_of_ble_eq_true rfl), (Nat.le_of_ble_eq_true rfl)⟩) ⟨k_blind, k_recv hK hW (kc_25 g ad t (hwf _ hs)) rfl, fun U hU hw => ⟨rfl, k_I.of hK hZ hN hS hW hU hw⟩⟩ rfl rfl hl.1 rfl (lv_room (Nat.le_of_ble_eq_true rfl)) dX4_drill_21 ⟨(Nat.le_of_ble_eq_true rfl), (Nat.le_of_ble_eq_true rfl)⟩) hS (fun u H locs hpo hW hS => ?_)
  have hu9 := hpo.symm; subst hu9
  have hW : k_H g ad (set_o_pv t (fun j9 => if (k_cl (o_b t) j).contains j9 = true then false else (o_pv t) j9)) H := hW
  refine lv_iload_n hx hb dX4_drill_24 rfl (lv_at hl 0 rfl) ?_
  refine lv_if_eq (tgt := 35) hx hb dX4_drill_25 (by decide) (fun h_25 => ?_) (fun h_25 => absurd h_25 (by decide))
  refine lv_iconst (v := (-1)) hx hb dX4_drill_35 (by decide) ?_
  exact k_ri hQ hx hb hr hlk hS hW ⟨rfl, rfl⟩ (Nat.le_of_ble_eq_true rfl) (Nat.le_of_ble_eq_true rfl) dX4_drill_36
set_option maxRecDepth 100000 in
set_option maxHeartbeats 4000000 in
theorem c_X4_dayOf_ok (l : Launch) (hlt : l.stackTraces = false) (g : k_g) (ad : k_AD) (t : k_T) (j : Nat) (hj : j < 60) (hs : s_th t j = true) (hwf : ∀ j, s_th t j = true → j < o_n t) : Met l yX4_dayOf wsX4_dayOf rm_X4_dayOf (va_Pc [.ref (ad 0 0), .int (nI j)] (k_I g (k_ct g ad t) ad)) (va_Qi (fun r u => r = nI (o_on t j) ∧ u = t) (fun u U => k_H g ad u U.heap) (k_A g)) 1 6 (k_A g) := by
  refine k_met (cc := cX4_dayOf) (maxL := 2) (ret := (some .int)) (by decide) rfl (Nat.le_of_ble_eq_true rfl) (fun p e s m args below meth c Q ls hQ hx hb hr hml hts hown hlk hin hK hZ hN hW hS hl => ?_)
  have hown : s.vm.findClass RX4 = some m.cls := hown
  have hW : k_H g ad t s.heap := hW
  have hl : lv_has ls 2 [(0, .ref (ad 0 0)), (1, .int (nI j))] := hl
  have hinX0 : ∀ w ∈ wsX00, w ∈ wsX4_dayOf := by decide +kernel
  refine lv_aload_n hx hb dX4_dayOf_0 rfl (lv_at hl 0 rfl) ?_
  refine lv_iload_n hx hb dX4_dayOf_1 rfl (lv_at hl 1 rfl) ?_
  refine k_cq (va_runV (As := [.int (nI j)]) (rest := []) ⟨hx, hb, hml, hown, hts⟩ (c_X4_requireCopy l hlt g ad t j (by omega) (by omega)) (cwV 1 hts gX4_dayOf_X4_requireCopy rfl rfl rfl (by decide +kernel) ⟨(Nat.le_of_ble_eq_true rfl), (Nat.le_of_ble_eq_true rfl)⟩) ⟨k_blind, k_recv hK hW (kc_0 g ad t) rfl, fun U hU hw => ⟨rfl, k_I.of hK hZ hN hS hW hU hw⟩⟩ rfl rfl hl.1 rfl (lv_room (Nat.le_of_ble_eq_true rfl)) dX4_dayOf_2 ⟨(Nat.le_of_ble_eq_true rfl), (Nat.le_of_ble_eq_true rfl)⟩) hS (fun r u H locs hpo hW hS => ?_)
  obtain ⟨hr9, hu9⟩ := hpo; replace hu9 := hu9.symm; subst hu9; replace hr9 := hr9.symm; subst hr9
  refine k_tov (y := .ref (ad 25 j)) rfl ?_
  refine k_getN (host := RX4) (index := 149) (own := RX4) (C := RX0) (T := TX0) (N := 11) hx hb hts hinX0 hown hK hW (kc_25 g ad t (hwf _ hs)) rfl 1 (by decide) (by decide +kernel) rfl (v := .int (nI (o_on t j))) rfl dX4_dayOf_5 ?_
  exact k_ri hQ hx hb hr hlk hS hW ⟨rfl, rfl⟩ (Nat.le_of_ble_eq_true rfl) (Nat.le_of_ble_eq_true rfl) dX4_dayOf_8
set_option maxRecDepth 100000 in
set_option maxHeartbeats 4000000 in
theorem c_X4_keeps_ok (l : Launch) (hlt : l.stackTraces = false) (g : k_g) (ad : k_AD) (t : k_T) (j : Nat) (hj : j < 60) (hs : s_th t j = true) (hwf : ∀ j, s_th t j = true → j < o_n t) : Met l yX4_keeps wsX4_keeps rm_X4_keeps (va_Pc [.ref (ad 0 0), .int (nI j)] (k_I g (k_ct g ad t) ad)) (va_Qi (fun r u => r = nI (o_kc t j) ∧ u = t) (fun u U => k_H g ad u U.heap) (k_A g)) 1 6 (k_A g) := by
  refine k_met (cc := cX4_keeps) (maxL := 2) (ret := (some .int)) (by decide) rfl (Nat.le_of_ble_eq_true rfl) (fun p e s m args below meth c Q ls hQ hx hb hr hml hts hown hlk hin hK hZ hN hW hS hl => ?_)
  have hown : s.vm.findClass RX4 = some m.cls := hown
  have hW : k_H g ad t s.heap := hW
  have hl : lv_has ls 2 [(0, .ref (ad 0 0)), (1, .int (nI j))] := hl
  have hinX0 : ∀ w ∈ wsX00, w ∈ wsX4_keeps := by decide +kernel
  refine lv_aload_n hx hb dX4_keeps_0 rfl (lv_at hl 0 rfl) ?_
  refine lv_iload_n hx hb dX4_keeps_1 rfl (lv_at hl 1 rfl) ?_
  refine k_cq (va_runV (As := [.int (nI j)]) (rest := []) ⟨hx, hb, hml, hown, hts⟩ (c_X4_requireCopy l hlt g ad t j (by omega) (by omega)) (cwV 1 hts gX4_keeps_X4_requireCopy rfl rfl rfl (by decide +kernel) ⟨(Nat.le_of_ble_eq_true rfl), (Nat.le_of_ble_eq_true rfl)⟩) ⟨k_blind, k_recv hK hW (kc_0 g ad t) rfl, fun U hU hw => ⟨rfl, k_I.of hK hZ hN hS hW hU hw⟩⟩ rfl rfl hl.1 rfl (lv_room (Nat.le_of_ble_eq_true rfl)) dX4_keeps_2 ⟨(Nat.le_of_ble_eq_true rfl), (Nat.le_of_ble_eq_true rfl)⟩) hS (fun r u H locs hpo hW hS => ?_)
  obtain ⟨hr9, hu9⟩ := hpo; replace hu9 := hu9.symm; subst hu9; replace hr9 := hr9.symm; subst hr9
  refine k_tov (y := .ref (ad 25 j)) rfl ?_
  refine k_getN (host := RX4) (index := 156) (own := RX4) (C := RX0) (T := TX0) (N := 11) hx hb hts hinX0 hown hK hW (kc_25 g ad t (hwf _ hs)) rfl 5 (by decide) (by decide +kernel) rfl (v := .int (nI (o_kc t j))) rfl dX4_keeps_5 ?_
  exact k_ri hQ hx hb hr hlk hS hW ⟨rfl, rfl⟩ (Nat.le_of_ble_eq_true rfl) (Nat.le_of_ble_eq_true rfl) dX4_keeps_8
set_option maxRecDepth 100000 in
set_option maxHeartbeats 4000000 in
theorem c_X4_isProved_ok (l : Launch) (hlt : l.stackTraces = false) (g : k_g) (ad : k_AD) (t : k_T) (j : Nat) (hj : j < 60) (hs : s_th t j = true) (hwf : ∀ j, s_th t j = true → j < o_n t) : Met l yX4_isProved wsX4_isProved rm_X4_isProved (va_Pc [.ref (ad 0 0), .int (nI j)] (k_I g (k_ct g ad t) ad)) (va_Qi (fun r u => r = kb (o_pv t j) ∧ u = t) (fun u U => k_H g ad u U.heap) (k_A g)) 1 6 (k_A g) := by
  refine k_met (cc := cX4_isProved) (maxL := 2) (ret := (some .boolean)) (by decide) rfl (Nat.le_of_ble_eq_true rfl) (fun p e s m args below meth c Q ls hQ hx hb hr hml hts hown hlk hin hK hZ hN hW hS hl => ?_)
  have hown : s.vm.findClass RX4 = some m.cls := hown
  have hW : k_H g ad t s.heap := hW
  have hl : lv_has ls 2 [(0, .ref (ad 0 0)), (1, .int (nI j))] := hl
  have hinX0 : ∀ w ∈ wsX00, w ∈ wsX4_isProved := by decide +kernel
  refine lv_aload_n hx hb dX4_isProved_0 rfl (lv_at hl 0 rfl) ?_
  refine lv_iload_n hx hb dX4_isProved_1 rfl (lv_at hl 1 rfl) ?_
  refine k_cq (va_runV (As := [.int (nI j)]) (rest := []) ⟨hx, hb, hml, hown, hts⟩ (c_X4_requireCopy l hlt g ad t j (by omega) (by omega)) (cwV 1 hts gX4_isProved_X4_requireCopy rfl rfl rfl (by decide +kernel) ⟨(Nat.le_of_ble_eq_true rfl), (Nat.le_of_ble_eq_true rfl)⟩) ⟨k_blind, k_recv hK hW (kc_0 g ad t) rfl, fun U hU hw => ⟨rfl, k_I.of hK hZ hN hS hW hU hw⟩⟩ rfl rfl hl.1 rfl (lv_room (Nat.le_of_ble_eq_true rfl)) dX4_isProved_2 ⟨(Nat.le_of_ble_eq_true rfl), (Nat.le_of_ble_eq_true rfl)⟩) hS (fun r u H locs hpo hW hS => ?_)
  obtain ⟨hr9, hu9⟩ := hpo; replace hu9 := hu9.symm; subst hu9; replace hr9 := hr9.symm; subst hr9
  refine k_tov (y := .ref (ad 25 j)) rfl ?_
  refine k_getN (host := RX4) (index := 106) (own := RX4) (C := RX0) (T := TX0) (N := 11) hx hb hts hinX0 hown hK hW (kc_25 g ad t (hwf _ hs)) rfl 7 (by decide) (by decide +kernel) rfl (v := .int (kb (o_pv t j))) rfl dX4_isProved_5 ?_
  exact k_rz hQ hx hb hr (kb_nar _) hlk hS hW ⟨rfl, rfl⟩ (Nat.le_of_ble_eq_true rfl) (Nat.le_of_ble_eq_true rfl) dX4_isProved_8
set_option maxRecDepth 100000 in
set_option maxHeartbeats 4000000 in
theorem c_X4_baseOf_ok (l : Launch) (hlt : l.stackTraces = false) (g : k_g) (ad : k_AD) (t : k_T) (j : Nat) (hj : j < 60) (hs : s_th t j = true) (hwf : ∀ j, s_th t j = true → j < o_n t) (hbs : ∀ k b, k < o_n t → o_b t k = some b → b < o_n t ∧ b < k) : Met l yX4_baseOf wsX4_baseOf rm_X4_baseOf (va_Pc [.ref (ad 0 0), .int (nI j)] (k_I g (k_ct g ad t) ad)) (va_Qi (fun r u => r = kO (o_b t j) ∧ u = t) (fun u U => k_H g ad u U.heap) (k_A g)) 1 6 (k_A g) := by
  refine k_met (cc := cX4_baseOf) (maxL := 3) (ret := (some .int)) (by decide) rfl (Nat.le_of_ble_eq_true rfl) (fun p e s m args below meth c Q ls hQ hx hb hr hml hts hown hlk hin hK hZ hN hW hS hl => ?_)
  have hown : s.vm.findClass RX4 = some m.cls := hown
  have hW : k_H g ad t s.heap := hW
  have hl : lv_has ls 3 [(0, .ref (ad 0 0)), (1, .int (nI j))] := hl
  have hinX0 : ∀ w ∈ wsX00, w ∈ wsX4_baseOf := by decide +kernel
  refine lv_aload_n hx hb dX4_baseOf_0 rfl (lv_at hl 0 rfl) ?_
  refine lv_iload_n hx hb dX4_baseOf_1 rfl (lv_at hl 1 rfl) ?_
  refine k_cq (va_runV (As := [.int (nI j)]) (rest := []) ⟨hx, hb, hml, hown, hts⟩ (c_X4_requireCopy l hlt g ad t j (by omega) (by omega)) (cwV 1 hts gX4_baseOf_X4_requireCopy rfl rfl rfl (by decide +kernel) ⟨(Nat.le_of_ble_eq_true rfl), (Nat.le_of_ble_eq_true rfl)⟩) ⟨k_blind, k_recv hK hW (kc_0 g ad t) rfl, fun U hU hw => ⟨rfl, k_I.of hK hZ hN hS hW hU hw⟩⟩ rfl rfl hl.1 rfl (lv_room (Nat.le_of_ble_eq_true rfl)) dX4_baseOf_2 ⟨(Nat.le_of_ble_eq_true rfl), (Nat.le_of_ble_eq_true rfl)⟩) hS (fun r u H locs hpo hW hS => ?_)
  obtain ⟨hr9, hu9⟩ := hpo; replace hu9 := hu9.symm; subst hu9; replace hr9 := hr9.symm; subst hr9
  refine k_tov (y := .ref (ad 25 j)) rfl ?_
  refine k_getN (host := RX4) (index := 152) (own := RX4) (C := RX0) (T := TX0) (N := 11) hx hb hts hinX0 hown hK hW (kc_25 g ad t (hwf _ hs)) rfl 2 (by decide) (by decide +kernel) rfl (v := va_rf ((o_b t j).map (ad 25))) rfl dX4_baseOf_5 ?_
  rcases hob_8 : o_b t j with _ | b_8
  · refine k_tov (y := .null) (by first | rfl | (rw [hob_8]; rfl)) ?_
    refine lv_astore_nN (lv' := [(2, .null), (0, .ref (ad 0 0)), (1, .int (nI j))]) hx hb dX4_baseOf_8 rfl hl (by decide) rfl (fun ls hl => ?_)
    refine lv_aload_nN hx hb dX4_baseOf_9 rfl (lv_at hl 0 rfl) ?_
    refine lv_ifnonnullN hx hb dX4_baseOf_10 ?_
    refine lv_iconst (v := (-1)) hx hb dX4_baseOf_13 (by decide) ?_
    refine lv_goto (tgt := 21) hx hb dX4_baseOf_14 (by decide) ?_
    exact k_ri hQ hx hb hr hlk hS hW ⟨by rw [hob_8]; rfl, rfl⟩ (Nat.le_of_ble_eq_true rfl) (Nat.le_of_ble_eq_true rfl) dX4_baseOf_21
  · refine k_tov (y := .ref (ad 25 b_8)) (by first | rfl | (rw [hob_8]; rfl)) ?_
    refine lv_astore_n (lv' := [(2, .ref (ad 25 b_8)), (0, .ref (ad 0 0)), (1, .int (nI j))]) hx hb dX4_baseOf_8 rfl hl (by decide) rfl (fun ls hl => ?_)
    refine lv_aload_n hx hb dX4_baseOf_9 rfl (lv_at hl 0 rfl) ?_
    refine lv_ifnonnull (tgt := 17) hx hb dX4_baseOf_10 (by decide) ?_
    refine lv_aload_n hx hb dX4_baseOf_17 rfl (lv_at hl 0 rfl) ?_
    refine k_getN (host := RX4) (index := 82) (own := RX4) (C := RX0) (T := TX0) (N := 11) hx hb hts hinX0 hown hK hW (kc_25 g ad t (hbs _ _ (hwf _ hs) hob_8).1) rfl 0 (by decide) (by decide +kernel) rfl (v := .int (nI b_8)) rfl dX4_baseOf_18 ?_
    exact k_ri hQ hx hb hr hlk hS hW ⟨by rw [hob_8]; rfl, rfl⟩ (Nat.le_of_ble_eq_true rfl) (Nat.le_of_ble_eq_true rfl) dX4_baseOf_21
set_option maxRecDepth 100000 in
set_option maxHeartbeats 4000000 in
theorem c_X4_isPromised_ok (l : Launch) (hlt : l.stackTraces = false) (g : k_g) (ad : k_AD) (t : k_T) (j : Nat) (hj : j < 60) (hs : s_th t j = true) (hwf : ∀ j, s_th t j = true → j < o_n t) (hbs : ∀ k b, k < o_n t → o_b t k = some b → b < o_n t ∧ b < k) (hth : ∀ j b, s_th t j = true → o_b t j = some b → s_th t b = true) (hn60 : o_n t ≤ 60) (hon : ∀ j, j < o_n t → o_on t j ≤ 360) (hr1 : s_r1 t ≤ 30) (hr2 : s_r2 t ≤ 30) (hr3 : s_r3 t ≤ 30) : Met l yX4_isPromised wsX4_isPromised rm_X4_isPromised (va_Pc [.ref (ad 0 0), .int (nI j)] (k_I g (k_ct g ad t) ad)) (va_Qi (fun r u => r = kb ((k_Pm (s_th t) (o_pm t) (o_on t) (s_r1 t) (s_r2 t) (s_r3 t)) j) ∧ u = set_o_nd (set_o_pm t (k_Pm (s_th t) (o_pm t) (o_on t) (s_r1 t) (s_r2 t) (s_r3 t))) (k_Nm (s_th t) (o_nd t) (k_Pm (s_th t) (o_pm t) (o_on t) (s_r1 t) (s_r2 t) (s_r3 t)) (o_b t))) (fun u U => k_H g ad u U.heap) (k_A g)) 1 6 (k_A g) := by
  refine k_met (cc := cX4_isPromised) (maxL := 3) (ret := (some .boolean)) (by decide) rfl (Nat.le_of_ble_eq_true rfl) (fun p e s m args below meth c Q ls hQ hx hb hr hml hts hown hlk hin hK hZ hN hW hS hl => ?_)
  have hown : s.vm.findClass RX4 = some m.cls := hown
  have hW : k_H g ad t s.heap := hW
  have hl : lv_has ls 3 [(0, .ref (ad 0 0)), (1, .int (nI j))] := hl
  have hinX0 : ∀ w ∈ wsX00, w ∈ wsX4_isPromised := by decide +kernel
  have hinX4 : ∀ w ∈ wsX40, w ∈ wsX4_isPromised := by decide +kernel
  refine lv_aload_n hx hb dX4_isPromised_0 rfl (lv_at hl 0 rfl) ?_
  refine lv_iload_n hx hb dX4_isPromised_1 rfl (lv_at hl 1 rfl) ?_
  refine k_cq (va_runV (As := [.int (nI j)]) (rest := []) ⟨hx, hb, hml, hown, hts⟩ (c_X4_requireCopy l hlt g ad t j (by omega) (by omega)) (cwV 1 hts gX4_isPromised_X4_requireCopy rfl rfl rfl (by decide +kernel) ⟨(Nat.le_of_ble_eq_true rfl), (Nat.le_of_ble_eq_true rfl)⟩) ⟨k_blind, k_recv hK hW (kc_0 g ad t) rfl, fun U hU hw => ⟨rfl, k_I.of hK hZ hN hS hW hU hw⟩⟩ rfl rfl hl.1 rfl (lv_room (Nat.le_of_ble_eq_true rfl)) dX4_isPromised_2 ⟨(Nat.le_of_ble_eq_true rfl), (Nat.le_of_ble_eq_true rfl)⟩) hS (fun r u H locs hpo hW hS => ?_)
  obtain ⟨hr9, hu9⟩ := hpo; replace hu9 := hu9.symm; subst hu9; replace hr9 := hr9.symm; subst hr9
  refine k_tov (y := .ref (ad 25 j)) rfl ?_
  refine lv_astore_n (lv' := [(2, .ref (ad 25 j)), (0, .ref (ad 0 0)), (1, .int (nI j))]) hx hb dX4_isPromised_5 rfl hl (by decide) rfl (fun ls hl => ?_)
  refine lv_aload_n hx hb dX4_isPromised_6 rfl (lv_at hl 1 rfl) ?_
  refine k_get (own := RX4) (C := RX4) (T := TX4) (N := 4) hx hb hts hinX4 hown hK hW (kc_0 g ad t) rfl 1 (by decide) (hts (.fieldLink RX4 19 "DrillVault" "shelf" "LDrillVault$Shelf;") (by decide +kernel)) rfl (v := .ref (ad 5 0)) rfl dX4_isPromised_7 ?_
  refine k_cv (va_runV (As := []) (rest := []) ⟨hx, hb, hml, hown, hts⟩ (c_X3_markGenerations l hlt g ad t hwf hbs hth hn60 hon hr1 hr2 hr3) (cwV 0 hts gX4_isPromised_X3_markGenerations rfl rfl rfl (by decide +kernel) ⟨(Nat.le_of_ble_eq_true rfl), (Nat.le_of_ble_eq_true rfl)⟩) ⟨k_blind, k_recv hK hW (kc_5 g ad t) rfl, fun U hU hw => ⟨rfl, k_I.of hK hZ hN hS hW hU hw⟩⟩ rfl rfl hl.1 rfl (lv_room (Nat.le_of_ble_eq_true rfl)) dX4_isPromised_10 ⟨(Nat.le_of_ble_eq_true rfl), (Nat.le_of_ble_eq_true rfl)⟩) hS (fun u H locs hpo hW hS => ?_)
  have hu9 := hpo.symm; subst hu9
  have hW : k_H g ad (set_o_nd (set_o_pm t (k_Pm (s_th t) (o_pm t) (o_on t) (s_r1 t) (s_r2 t) (s_r3 t))) (k_Nm (s_th t) (o_nd t) (k_Pm (s_th t) (o_pm t) (o_on t) (s_r1 t) (s_r2 t) (s_r3 t)) (o_b t))) H := hW
  refine lv_aload_n hx hb dX4_isPromised_13 rfl (lv_at hl 0 rfl) ?_
  refine k_getN (host := RX4) (index := 162) (own := RX4) (C := RX0) (T := TX0) (N := 11) hx hb hts hinX0 hown hK hW (kc_25 g ad (set_o_nd (set_o_pm t (k_Pm (s_th t) (o_pm t) (o_on t) (s_r1 t) (s_r2 t) (s_r3 t))) (k_Nm (s_th t) (o_nd t) (k_Pm (s_th t) (o_pm t) (o_on t) (s_r1 t) (s_r2 t) (s_r3 t)) (o_b t))) (hwf _ hs)) rfl 8 (by decide) (by decide +kernel) rfl (v := .int (kb ((k_Pm (s_th t) (o_pm t) (o_on t) (s_r1 t) (s_r2 t) (s_r3 t)) j))) rfl dX4_isPromised_14 ?_
  exact k_rz hQ hx hb hr (kb_nar _) hlk hS hW ⟨rfl, rfl⟩ (Nat.le_of_ble_eq_true rfl) (Nat.le_of_ble_eq_true rfl) dX4_isPromised_17
set_option maxRecDepth 100000 in
set_option maxHeartbeats 4000000 in
theorem c_X4_isNeeded_ok (l : Launch) (hlt : l.stackTraces = false) (g : k_g) (ad : k_AD) (t : k_T) (j : Nat) (hj : j < 60) (hs : s_th t j = true) (hwf : ∀ j, s_th t j = true → j < o_n t) (hbs : ∀ k b, k < o_n t → o_b t k = some b → b < o_n t ∧ b < k) (hth : ∀ j b, s_th t j = true → o_b t j = some b → s_th t b = true) (hn60 : o_n t ≤ 60) (hon : ∀ j, j < o_n t → o_on t j ≤ 360) (hr1 : s_r1 t ≤ 30) (hr2 : s_r2 t ≤ 30) (hr3 : s_r3 t ≤ 30) : Met l yX4_isNeeded wsX4_isNeeded rm_X4_isNeeded (va_Pc [.ref (ad 0 0), .int (nI j)] (k_I g (k_ct g ad t) ad)) (va_Qi (fun r u => r = kb ((k_Nm (s_th t) (o_nd t) (k_Pm (s_th t) (o_pm t) (o_on t) (s_r1 t) (s_r2 t) (s_r3 t)) (o_b t)) j) ∧ u = set_o_nd (set_o_pm t (k_Pm (s_th t) (o_pm t) (o_on t) (s_r1 t) (s_r2 t) (s_r3 t))) (k_Nm (s_th t) (o_nd t) (k_Pm (s_th t) (o_pm t) (o_on t) (s_r1 t) (s_r2 t) (s_r3 t)) (o_b t))) (fun u U => k_H g ad u U.heap) (k_A g)) 1 6 (k_A g) := by
  refine k_met (cc := cX4_isNeeded) (maxL := 3) (ret := (some .boolean)) (by decide) rfl (Nat.le_of_ble_eq_true rfl) (fun p e s m args below meth c Q ls hQ hx hb hr hml hts hown hlk hin hK hZ hN hW hS hl => ?_)
  have hown : s.vm.findClass RX4 = some m.cls := hown
  have hW : k_H g ad t s.heap := hW
  have hl : lv_has ls 3 [(0, .ref (ad 0 0)), (1, .int (nI j))] := hl
  have hinX0 : ∀ w ∈ wsX00, w ∈ wsX4_isNeeded := by decide +kernel
  have hinX4 : ∀ w ∈ wsX40, w ∈ wsX4_isNeeded := by decide +kernel
  refine lv_aload_n hx hb dX4_isNeeded_0 rfl (lv_at hl 0 rfl) ?_
  refine lv_iload_n hx hb dX4_isNeeded_1 rfl (lv_at hl 1 rfl) ?_
  refine k_cq (va_runV (As := [.int (nI j)]) (rest := []) ⟨hx, hb, hml, hown, hts⟩ (c_X4_requireCopy l hlt g ad t j (by omega) (by omega)) (cwV 1 hts gX4_isNeeded_X4_requireCopy rfl rfl rfl (by decide +kernel) ⟨(Nat.le_of_ble_eq_true rfl), (Nat.le_of_ble_eq_true rfl)⟩) ⟨k_blind, k_recv hK hW (kc_0 g ad t) rfl, fun U hU hw => ⟨rfl, k_I.of hK hZ hN hS hW hU hw⟩⟩ rfl rfl hl.1 rfl (lv_room (Nat.le_of_ble_eq_true rfl)) dX4_isNeeded_2 ⟨(Nat.le_of_ble_eq_true rfl), (Nat.le_of_ble_eq_true rfl)⟩) hS (fun r u H locs hpo hW hS => ?_)
  obtain ⟨hr9, hu9⟩ := hpo; replace hu9 := hu9.symm; subst hu9; replace hr9 := hr9.symm; subst hr9
  refine k_tov (y := .ref (ad 25 j)) rfl ?_
  refine lv_astore_n (lv' := [(2, .ref (ad 25 j)), (0, .ref (ad 0 0)), (1, .int (nI j))]) hx hb dX4_isNeeded_5 rfl hl (by decide) rfl (fun ls hl => ?_)
  refine lv_aload_n hx hb dX4_isNeeded_6 rfl (lv_at hl 1 rfl) ?_
  refine k_get (own := RX4) (C := RX4) (T := TX4) (N := 4) hx hb hts hinX4 hown hK hW (kc_0 g ad t) rfl 1 (by decide) (hts (.fieldLink RX4 19 "DrillVault" "shelf" "LDrillVault$Shelf;") (by decide +kernel)) rfl (v := .ref (ad 5 0)) rfl dX4_isNeeded_7 ?_
  refine k_cv (va_runV (As := []) (rest := []) ⟨hx, hb, hml, hown, hts⟩ (c_X3_markGenerations l hlt g ad t hwf hbs hth hn60 hon hr1 hr2 hr3) (cwV 0 hts gX4_isNeeded_X3_markGenerations rfl rfl rfl (by decide +kernel) ⟨(Nat.le_of_ble_eq_true rfl), (Nat.le_of_ble_eq_true rfl)⟩) ⟨k_blind, k_recv hK hW (kc_5 g ad t) rfl, fun U hU hw => ⟨rfl, k_I.of hK hZ hN hS hW hU hw⟩⟩ rfl rfl hl.1 rfl (lv_room (Nat.le_of_ble_eq_true rfl)) dX4_isNeeded_10 ⟨(Nat.le_of_ble_eq_true rfl), (Nat.le_of_ble_eq_true rfl)⟩) hS (fun u H locs hpo hW hS => ?_)
  have hu9 := hpo.symm; subst hu9
  have hW : k_H g ad (set_o_nd (set_o_pm t (k_Pm (s_th t) (o_pm t) (o_on t) (s_r1 t) (s_r2 t) (s_r3 t))) (k_Nm (s_th t) (o_nd t) (k_Pm (s_th t) (o_pm t) (o_on t) (s_r1 t) (s_r2 t) (s_r3 t)) (o_b t))) H := hW
  refine lv_aload_n hx hb dX4_isNeeded_13 rfl (lv_at hl 0 rfl) ?_
  refine k_getN (host := RX4) (index := 165) (own := RX4) (C := RX0) (T := TX0) (N := 11) hx hb hts hinX0 hown hK hW (kc_25 g ad (set_o_nd (set_o_pm t (k_Pm (s_th t) (o_pm t) (o_on t) (s_r1 t) (s_r2 t) (s_r3 t))) (k_Nm (s_th t) (o_nd t) (k_Pm (s_th t) (o_pm t) (o_on t) (s_r1 t) (s_r2 t) (s_r3 t)) (o_b t))) (hwf _ hs)) rfl 9 (by decide) (by decide +kernel) rfl (v := .int (kb ((k_Nm (s_th t) (o_nd t) (k_Pm (s_th t) (o_pm t) (o_on t) (s_r1 t) (s_r2 t) (s_r3 t)) (o_b t)) j))) rfl dX4_isNeeded_14 ?_
  exact k_rz hQ hx hb hr (kb_nar _) hlk hS hW ⟨rfl, rfl⟩ (Nat.le_of_ble_eq_true rfl) (Nat.le_of_ble_eq_true rfl) dX4_isNeeded_17
abbrev rm_X4_restore : Room := { frames := 7, cells := 2, slots := 12, locals := 112 }
set_option maxRecDepth 100000 in
set_option maxHeartbeats 4000000 in
theorem c_X4_restore_b (l : Launch) (hlt : l.stackTraces = false) (g : k_g) (ad : k_AD) (t : k_T) (z : Int32) (y : Int32) (hz : z < 0 ∨ nI 60 ≤ z ∨ ∃ j, j < 60 ∧ z = nI j ∧ s_th t j = false) : vx_Met l yX4_restore wsX4_restore rm_X4_restore (va_Pc [.ref (ad 0 0), .int z, .int y] (k_I g (k_ct g ad t) ad)) (va_Qv (fun _ => False) (fun u U => k_H g ad u U.heap) (k_A g)) (vx_X (fun u => u = t) (fun E u U => E = "java/lang/IndexOutOfBoundsException" ∧ k_H g ad u U.heap) (k_A g)) 2 12 (k_A g) := by
  refine k_metX (cc := cX4_restore) (maxL := 4) (ret := (some .int)) (by decide) rfl (Nat.le_of_ble_eq_true rfl) (fun p e s m args below meth c Q ls hQ hx hb hr hml hts hown hlk hin hout hK hZ hN hW hS hl => ?_)
  have hown : s.vm.findClass RX4 = some m.cls := hown
  have hW : k_H g ad t s.heap := hW
  have hl : lv_has ls 4 [(0, .ref (ad 0 0)), (1, .int z), (2, .int y)] := hl
  refine lv_aload_n hx hb dX4_restore_0 rfl (lv_at hl 0 rfl) ?_
  refine lv_iload_n hx hb dX4_restore_1 rfl (lv_at hl 1 rfl) ?_
  exact k_xv hQ hout hlk (vx_runV (As := [.int z]) (rest := []) ⟨hx, hb, hml, hown, hts⟩ (c_X4_requireCopy_b l hlt g ad t z hz) (cwV 1 hts gX4_restore_X4_requireCopy rfl rfl rfl (by decide +kernel) ⟨(Nat.le_of_ble_eq_true rfl), (Nat.le_of_ble_eq_true rfl)⟩) ⟨k_blind, k_recv hK hW (kc_0 g ad t) rfl, fun U hU hw => ⟨rfl, k_I.of hK hZ hN hS hW hU hw⟩⟩ rfl rfl hl.1 rfl (lv_room (Nat.le_of_ble_eq_true rfl)) dX4_restore_2 ⟨(Nat.le_of_ble_eq_true rfl), (Nat.le_of_ble_eq_true rfl)⟩) (fun _ h => h) hS (Nat.le_of_ble_eq_true rfl) (Nat.le_of_ble_eq_true rfl)
set_option maxRecDepth 100000 in
set_option maxHeartbeats 4000000 in
theorem c_X4_restore_bf (l : Launch) (hlt : l.stackTraces = false) (g : k_g) (ad : k_AD) (t : k_T) (j : Nat) (z : Int32) (hj : j < 60) (hs : s_th t j = true) (hz : z < 0 ∨ nI 10 ≤ z) : vx_Met l yX4_restore wsX4_restore rm_X4_restore (va_Pc [.ref (ad 0 0), .int (nI j), .int z] (k_I g (k_ct g ad t) ad)) (va_Qv (fun _ => False) (fun u U => k_H g ad u U.heap) (k_A g)) (vx_X (fun u => u = t) (fun E u U => E = "java/lang/IndexOutOfBoundsException" ∧ k_H g ad u U.heap) (k_A g)) 2 12 (k_A g) := by
  refine k_metX (cc := cX4_restore) (maxL := 4) (ret := (some .int)) (by decide) rfl (Nat.le_of_ble_eq_true rfl) (fun p e s m args below meth c Q ls hQ hx hb hr hml hts hown hlk hin hout hK hZ hN hW hS hl => ?_)
  have hown : s.vm.findClass RX4 = some m.cls := hown
  have hW : k_H g ad t s.heap := hW
  have hl : lv_has ls 4 [(0, .ref (ad 0 0)), (1, .int (nI j)), (2, .int z)] := hl
  refine lv_aload_n hx hb dX4_restore_0 rfl (lv_at hl 0 rfl) ?_
  refine lv_iload_n hx hb dX4_restore_1 rfl (lv_at hl 1 rfl) ?_
  refine k_cq (va_runV (As := [.int (nI j)]) (rest := []) ⟨hx, hb, hml, hown, hts⟩ (c_X4_requireCopy l hlt g ad t j (by omega) (by omega)) (cwV 1 hts gX4_restore_X4_requireCopy rfl rfl rfl (by decide +kernel) ⟨(Nat.le_of_ble_eq_true rfl), (Nat.le_of_ble_eq_true rfl)⟩) ⟨k_blind, k_recv hK hW (kc_0 g ad t) rfl, fun U hU hw => ⟨rfl, k_I.of hK hZ hN hS hW hU hw⟩⟩ rfl rfl hl.1 rfl (lv_room (Nat.le_of_ble_eq_true rfl)) dX4_restore_2 ⟨(Nat.le_of_ble_eq_true rfl), (Nat.le_of_ble_eq_true rfl)⟩) hS (fun r u H locs hpo hW hS => ?_)
  obtain ⟨hr9, hu9⟩ := hpo; replace hu9 := hu9.symm; subst hu9; replace hr9 := hr9.symm; subst hr9
  refine k_tov (y := .ref (ad 25 j)) rfl ?_
  refine lv_astore_n (lv' := [(3, .ref (ad 25 j)), (0, .ref (ad 0 0)), (1, .int (nI j)), (2, .int z)]) hx hb dX4_restore_5 rfl hl (by decide) rfl (fun ls hl => ?_)
  refine lv_iload_n hx hb dX4_restore_6 rfl (lv_at hl 3 rfl) ?_
  exact k_xv hQ hout hlk (vx_runS (As := [.int z]) (rest := []) ⟨hx, hb, hml, hown, hts⟩ (c_X4_requireFile_b l hlt g ad t z hz) (va_cwS 1 hts gX4_restore_X4_requireFile rfl rfl rfl (by decide +kernel) ⟨(Nat.le_of_ble_eq_true rfl), (Nat.le_of_ble_eq_true rfl)⟩) ⟨k_blind, fun U hU hw => ⟨rfl, k_I.of hK hZ hN hS hW hU hw⟩⟩ rfl rfl hl.1 rfl (lv_room (Nat.le_of_ble_eq_true rfl)) dX4_restore_7 ⟨(Nat.le_of_ble_eq_true rfl), (Nat.le_of_ble_eq_true rfl)⟩) (fun _ h => h) hS (Nat.le_of_ble_eq_true rfl) (Nat.le_of_ble_eq_true rfl)
abbrev rm_X4_restoreByChanges : Room := { frames := 7, cells := 2, slots := 12, locals := 112 }
set_option maxRecDepth 100000 in
set_option maxHeartbeats 4000000 in
theorem c_X4_restoreByChanges_b (l : Launch) (hlt : l.stackTraces = false) (g : k_g) (ad : k_AD) (t : k_T) (z : Int32) (y : Int32) (hz : z < 0 ∨ nI 60 ≤ z ∨ ∃ j, j < 60 ∧ z = nI j ∧ s_th t j = false) : vx_Met l yX4_restoreByChanges wsX4_restoreByChanges rm_X4_restoreByChanges (va_Pc [.ref (ad 0 0), .int z, .int y] (k_I g (k_ct g ad t) ad)) (va_Qv (fun _ => False) (fun u U => k_H g ad u U.heap) (k_A g)) (vx_X (fun u => u = t) (fun E u U => E = "java/lang/IndexOutOfBoundsException" ∧ k_H g ad u U.heap) (k_A g)) 2 12 (k_A g) := by
  refine k_metX (cc := cX4_restoreByChanges) (maxL := 4) (ret := (some .int)) (by decide) rfl (Nat.le_of_ble_eq_true rfl) (fun p e s m args below meth c Q ls hQ hx hb hr hml hts hown hlk hin hout hK hZ hN hW hS hl => ?_)
  have hown : s.vm.findClass RX4 = some m.cls := hown
  have hW : k_H g ad t s.heap := hW
  have hl : lv_has ls 4 [(0, .ref (ad 0 0)), (1, .int z), (2, .int y)] := hl
  refine lv_aload_n hx hb dX4_restoreByChanges_0 rfl (lv_at hl 0 rfl) ?_
  refine lv_iload_n hx hb dX4_restoreByChanges_1 rfl (lv_at hl 1 rfl) ?_
  exact k_xv hQ hout hlk (vx_runV (As := [.int z]) (rest := []) ⟨hx, hb, hml, hown, hts⟩ (c_X4_requireCopy_b l hlt g ad t z hz) (cwV 1 hts gX4_restoreByChanges_X4_requireCopy rfl rfl rfl (by decide +kernel) ⟨(Nat.le_of_ble_eq_true rfl), (Nat.le_of_ble_eq_true rfl)⟩) ⟨k_blind, k_recv hK hW (kc_0 g ad t) rfl, fun U hU hw => ⟨rfl, k_I.of hK hZ hN hS hW hU hw⟩⟩ rfl rfl hl.1 rfl (lv_room (Nat.le_of_ble_eq_true rfl)) dX4_restoreByChanges_2 ⟨(Nat.le_of_ble_eq_true rfl), (Nat.le_of_ble_eq_true rfl)⟩) (fun _ h => h) hS (Nat.le_of_ble_eq_true rfl) (Nat.le_of_ble_eq_true rfl)
set_option maxRecDepth 100000 in
set_option maxHeartbeats 4000000 in
theorem c_X4_restoreByChanges_bf (l : Launch) (hlt : l.stackTraces = false) (g : k_g) (ad : k_AD) (t : k_T) (j : Nat) (z : Int32) (hj : j < 60) (hs : s_th t j = true) (hz : z < 0 ∨ nI 10 ≤ z) : vx_Met l yX4_restoreByChanges wsX4_restoreByChanges rm_X4_restoreByChanges (va_Pc [.ref (ad 0 0), .int (nI j), .int z] (k_I g (k_ct g ad t) ad)) (va_Qv (fun _ => False) (fun u U => k_H g ad u U.heap) (k_A g)) (vx_X (fun u => u = t) (fun E u U => E = "java/lang/IndexOutOfBoundsException" ∧ k_H g ad u U.heap) (k_A g)) 2 12 (k_A g) := by
  refine k_metX (cc := cX4_restoreByChanges) (maxL := 4) (ret := (some .int)) (by decide) rfl (Nat.le_of_ble_eq_true rfl) (fun p e s m args below meth c Q ls hQ hx hb hr hml hts hown hlk hin hout hK hZ hN hW hS hl => ?_)
  have hown : s.vm.findClass RX4 = some m.cls := hown
  have hW : k_H g ad t s.heap := hW
  have hl : lv_has ls 4 [(0, .ref (ad 0 0)), (1, .int (nI j)), (2, .int z)] := hl
  refine lv_aload_n hx hb dX4_restoreByChanges_0 rfl (lv_at hl 0 rfl) ?_
  refine lv_iload_n hx hb dX4_restoreByChanges_1 rfl (lv_at hl 1 rfl) ?_
  refine k_cq (va_runV (As := [.int (nI j)]) (rest := []) ⟨hx, hb, hml, hown, hts⟩ (c_X4_requireCopy l hlt g ad t j (by omega) (by omega)) (cwV 1 hts gX4_restoreByChanges_X4_requireCopy rfl rfl rfl (by decide +kernel) ⟨(Nat.le_of_ble_eq_true rfl), (Nat.le_of_ble_eq_true rfl)⟩) ⟨k_blind, k_recv hK hW (kc_0 g ad t) rfl, fun U hU hw => ⟨rfl, k_I.of hK hZ hN hS hW hU hw⟩⟩ rfl rfl hl.1 rfl (lv_room (Nat.le_of_ble_eq_true rfl)) dX4_restoreByChanges_2 ⟨(Nat.le_of_ble_eq_true rfl), (Nat.le_of_ble_eq_true rfl)⟩) hS (fun r u H locs hpo hW hS => ?_)
  obtain ⟨hr9, hu9⟩ := hpo; replace hu9 := hu9.symm; subst hu9; replace hr9 := hr9.symm; subst hr9
  refine k_tov (y := .ref (ad 25 j)) rfl ?_
  refine lv_astore_n (lv' := [(3, .ref (ad 25 j)), (0, .ref (ad 0 0)), (1, .int (nI j)), (2, .int z)]) hx hb dX4_restoreByChanges_5 rfl hl (by decide) rfl (fun ls hl => ?_)
  refine lv_iload_n hx hb dX4_restoreByChanges_6 rfl (lv_at hl 3 rfl) ?_
  exact k_xv hQ hout hlk (vx_runS (As := [.int z]) (rest := []) ⟨hx, hb, hml, hown, hts⟩ (c_X4_requireFile_b l hlt g ad t z hz) (va_cwS 1 hts gX4_restoreByChanges_X4_requireFile rfl rfl rfl (by decide +kernel) ⟨(Nat.le_of_ble_eq_true rfl), (Nat.le_of_ble_eq_true rfl)⟩) ⟨k_blind, fun U hU hw => ⟨rfl, k_I.of hK hZ hN hS hW hU hw⟩⟩ rfl rfl hl.1 rfl (lv_room (Nat.le_of_ble_eq_true rfl)) dX4_restoreByChanges_7 ⟨(Nat.le_of_ble_eq_true rfl), (Nat.le_of_ble_eq_true rfl)⟩) (fun _ h => h) hS (Nat.le_of_ble_eq_true rfl) (Nat.le_of_ble_eq_true rfl)
set_option maxRecDepth 100000 in
set_option maxHeartbeats 4000000 in
theorem c_X4_restore_ok (l : Launch) (hlt : l.stackTraces = false) (g : k_g) (ad : k_AD) (t : k_T) (j : Nat) (f : Nat) (hj : j < 60) (hs : s_th t j = true) (hf : f < 10) (hwf : ∀ j, s_th t j = true → j < o_n t) (hbs : ∀ k b, k < o_n t → o_b t k = some b → b < o_n t ∧ b < k) : Met l yX4_restore wsX4_restore rm_X4_restore (va_Pc [.ref (ad 0 0), .int (nI j), .int (nI f)] (k_I g (k_ct g ad t) ad)) (va_Qi (fun r u => r = k_fk (o_k t) f (k_cl (o_b t) j) ∧ u = t) (fun u U => k_H g ad u U.heap) (k_A g)) 2 12 (k_A g) := by
  refine k_met (cc := cX4_restore) (maxL := 4) (ret := (some .int)) (by decide) rfl (Nat.le_of_ble_eq_true rfl) (fun p e s m args below meth c Q ls hQ hx hb hr hml hts hown hlk hin hK hZ hN hW hS hl => ?_)
  have hown : s.vm.findClass RX4 = some m.cls := hown
  have hW : k_H g ad t s.heap := hW
  have hl : lv_has ls 4 [(0, .ref (ad 0 0)), (1, .int (nI j)), (2, .int (nI f))] := hl
  refine lv_aload_n hx hb dX4_restore_0 rfl (lv_at hl 0 rfl) ?_
  refine lv_iload_n hx hb dX4_restore_1 rfl (lv_at hl 1 rfl) ?_
  refine k_cq (va_runV (As := [.int (nI j)]) (rest := []) ⟨hx, hb, hml, hown, hts⟩ (c_X4_requireCopy l hlt g ad t j (by omega) (by omega)) (cwV 1 hts gX4_restore_X4_requireCopy rfl rfl rfl (by decide +kernel) ⟨(Nat.le_of_ble_eq_true rfl), (Nat.le_of_ble_eq_true rfl)⟩) ⟨k_blind, k_recv hK hW (kc_0 g ad t) rfl, fun U hU hw => ⟨rfl, k_I.of hK hZ hN hS hW hU hw⟩⟩ rfl rfl hl.1 rfl (lv_room (Nat.le_of_ble_eq_true rfl)) dX4_restore_2 ⟨(Nat.le_of_ble_eq_true rfl), (Nat.le_of_ble_eq_true rfl)⟩) hS (fun r u H locs hpo hW hS => ?_)
  obtain ⟨hr9, hu9⟩ := hpo; replace hu9 := hu9.symm; subst hu9; replace hr9 := hr9.symm; subst hr9
  refine k_tov (y := .ref (ad 25 j)) rfl ?_
  refine lv_astore_n (lv' := [(3, .ref (ad 25 j)), (0, .ref (ad 0 0)), (1, .int (nI j)), (2, .int (nI f))]) hx hb dX4_restore_5 rfl hl (by decide) rfl (fun ls hl => ?_)
  refine lv_iload_n hx hb dX4_restore_6 rfl (lv_at hl 3 rfl) ?_
  refine k_cv (va_runS (As := [.int (nI f)]) (rest := []) ⟨hx, hb, hml, hown, hts⟩ (c_X4_requireFile l hlt g ad t f hf) (va_cwS 1 hts gX4_restore_X4_requireFile rfl rfl rfl (by decide +kernel) ⟨(Nat.le_of_ble_eq_true rfl), (Nat.le_of_ble_eq_true rfl)⟩) ⟨k_blind, fun U hU hw => ⟨rfl, k_I.of hK hZ hN hS hW hU hw⟩⟩ rfl rfl hl.1 rfl (lv_room (Nat.le_of_ble_eq_true rfl)) dX4_restore_7 ⟨(Nat.le_of_ble_eq_true rfl), (Nat.le_of_ble_eq_true rfl)⟩) hS (fun u H locs hpo hW hS => ?_)
  have hu9 := hpo.symm; subst hu9
  refine lv_aload_n hx hb dX4_restore_10 rfl (lv_at hl 0 rfl) ?_
  refine lv_iload_n hx hb dX4_restore_11 rfl (lv_at hl 3 rfl) ?_
  refine k_ci (va_runV (As := [.int (nI f)]) (rest := []) ⟨hx, hb, hml, hown, hts⟩ (c_X0_contentByChain l hlt g ad t j f (hwf _ hs) hf hbs) (cwV 1 hts gX4_restore_X0_contentByChain rfl rfl rfl (by decide +kernel) ⟨(Nat.le_of_ble_eq_true rfl), (Nat.le_of_ble_eq_true rfl)⟩) ⟨k_blind, k_recv hK hW (kc_25 g ad t (hwf _ hs)) rfl, fun U hU hw => ⟨rfl, k_I.of hK hZ hN hS hW hU hw⟩⟩ rfl rfl hl.1 rfl (lv_room (Nat.le_of_ble_eq_true rfl)) dX4_restore_12 ⟨(Nat.le_of_ble_eq_true rfl), (Nat.le_of_ble_eq_true rfl)⟩) hS (fun r u H locs hpo hW hS => ?_)
  obtain ⟨hr9, hu9⟩ := hpo; replace hu9 := hu9.symm; subst hu9; replace hr9 := hr9.symm; subst hr9
  exact k_ri hQ hx hb hr hlk hS hW ⟨rfl, rfl⟩ (Nat.le_of_ble_eq_true rfl) (Nat.le_of_ble_eq_true rfl) dX4_restore_15
set_option maxRecDepth 100000 in
set_option maxHeartbeats 4000000 in
theorem c_X4_restoreByChanges_ok (l : Launch) (hlt : l.stackTraces = false) (g : k_g) (ad : k_AD) (t : k_T) (j : Nat) (f : Nat) (hj : j < 60) (hs : s_th t j = true) (hf : f < 10) (hwf : ∀ j, s_th t j = true → j < o_n t) (hca : o_ca t j ≤ 300) (hlf : ∀ i, i < o_ca t j → f_lf t i < 10) : Met l yX4_restoreByChanges wsX4_restoreByChanges rm_X4_restoreByChanges (va_Pc [.ref (ad 0 0), .int (nI j), .int (nI f)] (k_I g (k_ct g ad t) ad)) (va_Qi (fun r u => r = k_log (f_lf t) (f_lt t) (o_ca t j) f ∧ u = t) (fun u U => k_H g ad u U.heap) (k_A g)) 2 12 (k_A g) := by
  refine k_met (cc := cX4_restoreByChanges) (maxL := 4) (ret := (some .int)) (by decide) rfl (Nat.le_of_ble_eq_true rfl) (fun p e s m args below meth c Q ls hQ hx hb hr hml hts hown hlk hin hK hZ hN hW hS hl => ?_)
  have hown : s.vm.findClass RX4 = some m.cls := hown
  have hW : k_H g ad t s.heap := hW
  have hl : lv_has ls 4 [(0, .ref (ad 0 0)), (1, .int (nI j)), (2, .int (nI f))] := hl
  have hinX0 : ∀ w ∈ wsX00, w ∈ wsX4_restoreByChanges := by decide +kernel
  have hinX4 : ∀ w ∈ wsX40, w ∈ wsX4_restoreByChanges := by decide +kernel
  refine lv_aload_n hx hb dX4_restoreByChanges_0 rfl (lv_at hl 0 rfl) ?_
  refine lv_iload_n hx hb dX4_restoreByChanges_1 rfl (lv_at hl 1 rfl) ?_
  refine k_cq (va_runV (As := [.int (nI j)]) (rest := []) ⟨hx, hb, hml, hown, hts⟩ (c_X4_requireCopy l hlt g ad t j (by omega) (by omega)) (cwV 1 hts gX4_restoreByChanges_X4_requireCopy rfl rfl rfl (by decide +kernel) ⟨(Nat.le_of_ble_eq_true rfl), (Nat.le_of_ble_eq_true rfl)⟩) ⟨k_blind, k_recv hK hW (kc_0 g ad t) rfl, fun U hU hw => ⟨rfl, k_I.of hK hZ hN hS hW hU hw⟩⟩ rfl rfl hl.1 rfl (lv_room (Nat.le_of_ble_eq_true rfl)) dX4_restoreByChanges_2 ⟨(Nat.le_of_ble_eq_true rfl), (Nat.le_of_ble_eq_true rfl)⟩) hS (fun r u H locs hpo hW hS => ?_)
  obtain ⟨hr9, hu9⟩ := hpo; replace hu9 := hu9.symm; subst hu9; replace hr9 := hr9.symm; subst hr9
  refine k_tov (y := .ref (ad 25 j)) rfl ?_
  refine lv_astore_n (lv' := [(3, .ref (ad 25 j)), (0, .ref (ad 0 0)), (1, .int (nI j)), (2, .int (nI f))]) hx hb dX4_restoreByChanges_5 rfl hl (by decide) rfl (fun ls hl => ?_)
  refine lv_iload_n hx hb dX4_restoreByChanges_6 rfl (lv_at hl 3 rfl) ?_
  refine k_cv (va_runS (As := [.int (nI f)]) (rest := []) ⟨hx, hb, hml, hown, hts⟩ (c_X4_requireFile l hlt g ad t f hf) (va_cwS 1 hts gX4_restoreByChanges_X4_requireFile rfl rfl rfl (by decide +kernel) ⟨(Nat.le_of_ble_eq_true rfl), (Nat.le_of_ble_eq_true rfl)⟩) ⟨k_blind, fun U hU hw => ⟨rfl, k_I.of hK hZ hN hS hW hU hw⟩⟩ rfl rfl hl.1 rfl (lv_room (Nat.le_of_ble_eq_true rfl)) dX4_restoreByChanges_7 ⟨(Nat.le_of_ble_eq_true rfl), (Nat.le_of_ble_eq_true rfl)⟩) hS (fun u H locs hpo hW hS => ?_)
  have hu9 := hpo.symm; subst hu9
  refine lv_aload_n hx hb dX4_restoreByChanges_10 rfl (lv_at hl 1 rfl) ?_
  refine k_get (own := RX4) (C := RX4) (T := TX4) (N := 4) hx hb hts hinX4 hown hK hW (kc_0 g ad t) rfl 0 (by decide) (hts (.fieldLink RX4 10 "DrillVault" "files" "LDrillVault$Files;") (by decide +kernel)) rfl (v := .ref (ad 1 0)) rfl dX4_restoreByChanges_11 ?_
  refine lv_aload_n hx hb dX4_restoreByChanges_14 rfl (lv_at hl 0 rfl) ?_
  refine k_getN (host := RX4) (index := 91) (own := RX4) (C := RX0) (T := TX0) (N := 11) hx hb hts hinX0 hown hK hW (kc_25 g ad t (hwf _ hs)) rfl 3 (by decide) (by decide +kernel) rfl (v := .int (nI (o_ca t j))) rfl dX4_restoreByChanges_15 ?_
  refine lv_iload_n hx hb dX4_restoreByChanges_18 rfl (lv_at hl 3 rfl) ?_
  refine k_ci (va_runV (As := [.int (nI (o_ca t j)), .int (nI f)]) (rest := []) ⟨hx, hb, hml, hown, hts⟩ (c_X1_contentAfter l hlt g ad t (o_ca t j) f hca hf hlf) (cwV 2 hts gX4_restoreByChanges_X1_contentAfter rfl rfl rfl (by decide +kernel) ⟨(Nat.le_of_ble_eq_true rfl), (Nat.le_of_ble_eq_true rfl)⟩) ⟨k_blind, k_recv hK hW (kc_1 g ad t) rfl, fun U hU hw => ⟨rfl, k_I.of hK hZ hN hS hW hU hw⟩⟩ rfl rfl hl.1 rfl (lv_room (Nat.le_of_ble_eq_true rfl)) dX4_restoreByChanges_19 ⟨(Nat.le_of_ble_eq_true rfl), (Nat.le_of_ble_eq_true rfl)⟩) hS (fun r u H locs hpo hW hS => ?_)
  obtain ⟨hr9, hu9⟩ := hpo; replace hu9 := hu9.symm; subst hu9; replace hr9 := hr9.symm; subst hr9
  exact k_ri hQ hx hb hr hlk hS hW ⟨rfl, rfl⟩ (Nat.le_of_ble_eq_true rfl) (Nat.le_of_ble_eq_true rfl) dX4_restoreByChanges_22
abbrev rm_X4_setRules : Room := { frames := 6, cells := 3, slots := 18, locals := 96 }
set_option maxRecDepth 100000 in
set_option maxHeartbeats 4000000 in
theorem c_X4_setRules_1lo (l : Launch) (hlt : l.stackTraces = false) (g : k_g) (ad : k_AD) (t : k_T) (z : Int32) (y1 : Int32) (y2 : Int32) (hz : z < 0) : vx_Met l yX4_setRules wsX4_setRules rm_X4_setRules (va_Pc [.ref (ad 0 0), .int z, .int y1, .int y2] (k_I g (k_ct g ad t) ad)) (va_Qv (fun _ => False) (fun u U => k_H g ad u U.heap) (k_A g)) (vx_X (fun u => u = t) (fun E u U => E = "java/lang/IllegalArgumentException" ∧ k_H g ad u U.heap) (k_A g)) 3 18 (k_A g) := by
  refine k_metX (cc := cX4_setRules) (maxL := 4) (ret := (some .int)) (by decide) rfl (Nat.le_of_ble_eq_true rfl) (fun p e s m args below meth c Q ls hQ hx hb hr hml hts hown hlk hin hout hK hZ hN hW hS hl => ?_)
  have hown : s.vm.findClass RX4 = some m.cls := hown
  have hW : k_H g ad t s.heap := hW
  have hl : lv_has ls 4 [(0, .ref (ad 0 0)), (1, .int z), (2, .int y1), (3, .int y2)] := hl
  have hatIA : ∀ w ∈ (vx_atS RX4 42 "java/lang/IllegalArgumentException" ["java/lang/RuntimeException", "java/lang/Exception"]).filter goodWord, w ∈ wsX4_setRules := by decide +kernel
  refine lv_iload_n hx hb dX4_setRules_0 rfl (lv_at hl 1 rfl) ?_
  refine lv_if_lt (tgt := 10) hx hb dX4_setRules_1 (by decide) (fun h_1 => ?_) (fun h_1 => absurd h_1 (fun q => q hz))
  exact k_throw (text := "days is out of range") hQ hout hx hb hlt hml hlk hown hts (by decide) (by decide +kernel) (by decide +kernel) hatIA k_badIA k_goodIA_38 (by decide +kernel) (by decide +kernel) hK hZ hS hW hl rfl dX4_setRules_10 dX4_setRules_13 dX4_setRules_14 dX4_setRules_16 dX4_setRules_19 (Nat.le_of_ble_eq_true rfl) (Nat.le_of_ble_eq_true rfl) (Nat.le_of_ble_eq_true rfl) (Nat.le_of_ble_eq_true rfl) (Nat.le_of_ble_eq_true rfl) (Nat.le_of_ble_eq_true rfl)
set_option maxRecDepth 100000 in
set_option maxHeartbeats 4000000 in
theorem c_X4_setRules_1hi (l : Launch) (hlt : l.stackTraces = false) (g : k_g) (ad : k_AD) (t : k_T) (z : Int32) (y1 : Int32) (y2 : Int32) (hz : nI 30 < z) : vx_Met l yX4_setRules wsX4_setRules rm_X4_setRules (va_Pc [.ref (ad 0 0), .int z, .int y1, .int y2] (k_I g (k_ct g ad t) ad)) (va_Qv (fun _ => False) (fun u U => k_H g ad u U.heap) (k_A g)) (vx_X (fun u => u = t) (fun E u U => E = "java/lang/IllegalArgumentException" ∧ k_H g ad u U.heap) (k_A g)) 3 18 (k_A g) := by
  refine k_metX (cc := cX4_setRules) (maxL := 4) (ret := (some .int)) (by decide) rfl (Nat.le_of_ble_eq_true rfl) (fun p e s m args below meth c Q ls hQ hx hb hr hml hts hown hlk hin hout hK hZ hN hW hS hl => ?_)
  have hown : s.vm.findClass RX4 = some m.cls := hown
  have hW : k_H g ad t s.heap := hW
  have hl : lv_has ls 4 [(0, .ref (ad 0 0)), (1, .int z), (2, .int y1), (3, .int y2)] := hl
  have hatIA : ∀ w ∈ (vx_atS RX4 42 "java/lang/IllegalArgumentException" ["java/lang/RuntimeException", "java/lang/Exception"]).filter goodWord, w ∈ wsX4_setRules := by decide +kernel
  refine lv_iload_n hx hb dX4_setRules_0 rfl (lv_at hl 1 rfl) ?_
  refine lv_if_lt (tgt := 10) hx hb dX4_setRules_1 (by decide) (fun h_1 => absurd h_1 (k_gt_nneg hz (by decide))) (fun h_1 => ?_)
  refine lv_iload_n hx hb dX4_setRules_4 rfl (lv_at hl 1 rfl) ?_
  refine lv_bipush (v := nI 30) hx hb dX4_setRules_5 (by decide) ?_
  refine lv_icmp_le (tgt := 20) hx hb dX4_setRules_7 (by decide) (fun h_7 => absurd h_7 (Int32.not_le.mpr hz)) (fun h_7 => ?_)
  exact k_throw (text := "days is out of range") hQ hout hx hb hlt hml hlk hown hts (by decide) (by decide +kernel) (by decide +kernel) hatIA k_badIA k_goodIA_38 (by decide +kernel) (by decide +kernel) hK hZ hS hW hl rfl dX4_setRules_10 dX4_setRules_13 dX4_setRules_14 dX4_setRules_16 dX4_setRules_19 (Nat.le_of_ble_eq_true rfl) (Nat.le_of_ble_eq_true rfl) (Nat.le_of_ble_eq_true rfl) (Nat.le_of_ble_eq_true rfl) (Nat.le_of_ble_eq_true rfl) (Nat.le_of_ble_eq_true rfl)
set_option maxRecDepth 100000 in
set_option maxHeartbeats 4000000 in
theorem c_X4_setRules_1b (l : Launch) (hlt : l.stackTraces = false) (g : k_g) (ad : k_AD) (t : k_T) (z : Int32) (y1 : Int32) (y2 : Int32) (hz : z < 0 ∨ nI 30 < z) : vx_Met l yX4_setRules wsX4_setRules rm_X4_setRules (va_Pc [.ref (ad 0 0), .int z, .int y1, .int y2] (k_I g (k_ct g ad t) ad)) (va_Qv (fun _ => False) (fun u U => k_H g ad u U.heap) (k_A g)) (vx_X (fun u => u = t) (fun E u U => E = "java/lang/IllegalArgumentException" ∧ k_H g ad u U.heap) (k_A g)) 3 18 (k_A g) := by
  rcases hz with h | h
  · exact c_X4_setRules_1lo l hlt g ad t z y1 y2 h
  · exact c_X4_setRules_1hi l hlt g ad t z y1 y2 h
set_option maxRecDepth 100000 in
set_option maxHeartbeats 4000000 in
theorem c_X4_setRules_2lo (l : Launch) (hlt : l.stackTraces = false) (g : k_g) (ad : k_AD) (t : k_T) (ra : Nat) (z : Int32) (y2 : Int32) (h1 : ra ≤ 30) (hz : z < 0) : vx_Met l yX4_setRules wsX4_setRules rm_X4_setRules (va_Pc [.ref (ad 0 0), .int (nI ra), .int z, .int y2] (k_I g (k_ct g ad t) ad)) (va_Qv (fun _ => False) (fun u U => k_H g ad u U.heap) (k_A g)) (vx_X (fun u => u = t) (fun E u U => E = "java/lang/IllegalArgumentException" ∧ k_H g ad u U.heap) (k_A g)) 3 18 (k_A g) := by
  refine k_metX (cc := cX4_setRules) (maxL := 4) (ret := (some .int)) (by decide) rfl (Nat.le_of_ble_eq_true rfl) (fun p e s m args below meth c Q ls hQ hx hb hr hml hts hown hlk hin hout hK hZ hN hW hS hl => ?_)
  have hown : s.vm.findClass RX4 = some m.cls := hown
  have hW : k_H g ad t s.heap := hW
  have hl : lv_has ls 4 [(0, .ref (ad 0 0)), (1, .int (nI ra)), (2, .int z), (3, .int y2)] := hl
  have hatIA : ∀ w ∈ (vx_atS RX4 42 "java/lang/IllegalArgumentException" ["java/lang/RuntimeException", "java/lang/Exception"]).filter goodWord, w ∈ wsX4_setRules := by decide +kernel
  refine lv_iload_n hx hb dX4_setRules_0 rfl (lv_at hl 1 rfl) ?_
  refine k_if_lt (tgt := 10) hx hb (by omega) dX4_setRules_1 (by decide) ?_
  refine lv_iload_n hx hb dX4_setRules_4 rfl (lv_at hl 1 rfl) ?_
  refine lv_bipush (v := nI 30) hx hb dX4_setRules_5 (by decide) ?_
  refine k_icmp_le (tgt := 20) hx hb (a := ra) (b := 30) (by omega) (by decide) dX4_setRules_7 (by decide) (fun h_7 => ?_) (fun h_7 => absurd h_7 (by omega))
  refine lv_iload_n hx hb dX4_setRules_20 rfl (lv_at hl 2 rfl) ?_
  refine lv_if_lt (tgt := 30) hx hb dX4_setRules_21 (by decide) (fun h_21 => ?_) (fun h_21 => absurd h_21 (fun q => q hz))
  exact k_throw (text := "weeks is out of range") hQ hout hx hb hlt hml hlk hown hts (by decide) (by decide +kernel) (by decide +kernel) hatIA k_badIA k_goodIA_38 (by decide +kernel) (by decide +kernel) hK hZ hS hW hl rfl dX4_setRules_30 dX4_setRules_33 dX4_setRules_34 dX4_setRules_36 dX4_setRules_39 (Nat.le_of_ble_eq_true rfl) (Nat.le_of_ble_eq_true rfl) (Nat.le_of_ble_eq_true rfl) (Nat.le_of_ble_eq_true rfl) (Nat.le_of_ble_eq_true rfl) (Nat.le_of_ble_eq_true rfl)
set_option maxRecDepth 100000 in
set_option maxHeartbeats 4000000 in
theorem c_X4_setRules_2hi (l : Launch) (hlt : l.stackTraces = false) (g : k_g) (ad : k_AD) (t : k_T) (ra : Nat) (z : Int32) (y2 : Int32) (h1 : ra ≤ 30) (hz : nI 20 < z) : vx_Met l yX4_setRules wsX4_setRules rm_X4_setRules (va_Pc [.ref (ad 0 0), .int (nI ra), .int z, .int y2] (k_I g (k_ct g ad t) ad)) (va_Qv (fun _ => False) (fun u U => k_H g ad u U.heap) (k_A g)) (vx_X (fun u => u = t) (fun E u U => E = "java/lang/IllegalArgumentException" ∧ k_H g ad u U.heap) (k_A g)) 3 18 (k_A g) := by
  refine k_metX (cc := cX4_setRules) (maxL := 4) (ret := (some .int)) (by decide) rfl (Nat.le_of_ble_eq_true rfl) (fun p e s m args below meth c Q ls hQ hx hb hr hml hts hown hlk hin hout hK hZ hN hW hS hl => ?_)
  have hown : s.vm.findClass RX4 = some m.cls := hown
  have hW : k_H g ad t s.heap := hW
  have hl : lv_has ls 4 [(0, .ref (ad 0 0)), (1, .int (nI ra)), (2, .int z), (3, .int y2)] := hl
  have hatIA : ∀ w ∈ (vx_atS RX4 42 "java/lang/IllegalArgumentException" ["java/lang/RuntimeException", "java/lang/Exception"]).filter goodWord, w ∈ wsX4_setRules := by decide +kernel
  refine lv_iload_n hx hb dX4_setRules_0 rfl (lv_at hl 1 rfl) ?_
  refine k_if_lt (tgt := 10) hx hb (by omega) dX4_setRules_1 (by decide) ?_
  refine lv_iload_n hx hb dX4_setRules_4 rfl (lv_at hl 1 rfl) ?_
  refine lv_bipush (v := nI 30) hx hb dX4_setRules_5 (by decide) ?_
  refine k_icmp_le (tgt := 20) hx hb (a := ra) (b := 30) (by omega) (by decide) dX4_setRules_7 (by decide) (fun h_7 => ?_) (fun h_7 => absurd h_7 (by omega))
  refine lv_iload_n hx hb dX4_setRules_20 rfl (lv_at hl 2 rfl) ?_
  refine lv_if_lt (tgt := 30) hx hb dX4_setRules_21 (by decide) (fun h_21 => absurd h_21 (k_gt_nneg hz (by decide))) (fun h_21 => ?_)
  refine lv_iload_n hx hb dX4_setRules_24 rfl (lv_at hl 2 rfl) ?_
  refine lv_bipush (v := nI 20) hx hb dX4_setRules_25 (by decide) ?_
  refine lv_icmp_le (tgt := 40) hx hb dX4_setRules_27 (by decide) (fun h_27 => absurd h_27 (Int32.not_le.mpr hz)) (fun h_27 => ?_)
  exact k_throw (text := "weeks is out of range") hQ hout hx hb hlt hml hlk hown hts (by decide) (by decide +kernel) (by decide +kernel) hatIA k_badIA k_goodIA_38 (by decide +kernel) (by decide +kernel) hK hZ hS hW hl rfl dX4_setRules_30 dX4_setRules_33 dX4_setRules_34 dX4_setRules_36 dX4_setRules_39 (Nat.le_of_ble_eq_true rfl) (Nat.le_of_ble_eq_true rfl) (Nat.le_of_ble_eq_true rfl) (Nat.le_of_ble_eq_true rfl) (Nat.le_of_ble_eq_true rfl) (Nat.le_of_ble_eq_true rfl)
set_option maxRecDepth 100000 in
set_option maxHeartbeats 4000000 in
theorem c_X4_setRules_2b (l : Launch) (hlt : l.stackTraces = false) (g : k_g) (ad : k_AD) (t : k_T) (ra : Nat) (z : Int32) (y2 : Int32) (h1 : ra ≤ 30) (hz : z < 0 ∨ nI 20 < z) : vx_Met l yX4_setRules wsX4_setRules rm_X4_setRules (va_Pc [.ref (ad 0 0), .int (nI ra), .int z, .int y2] (k_I g (k_ct g ad t) ad)) (va_Qv (fun _ => False) (fun u U => k_H g ad u U.heap) (k_A g)) (vx_X (fun u => u = t) (fun E u U => E = "java/lang/IllegalArgumentException" ∧ k_H g ad u U.heap) (k_A g)) 3 18 (k_A g) := by
  rcases hz with h | h
  · exact c_X4_setRules_2lo l hlt g ad t ra z y2 h1 h
  · exact c_X4_setRules_2hi l hlt g ad t ra z y2 h1 h
set_option maxRecDepth 100000 in
set_option maxHeartbeats 4000000 in
theorem c_X4_setRules_3lo (l : Launch) (hlt : l.stackTraces = false) (g : k_g) (ad : k_AD) (t : k_T) (ra : Nat) (rb : Nat) (z : Int32) (h1 : ra ≤ 30) (h2 : rb ≤ 20) (hz : z < 0) : vx_Met l yX4_setRules wsX4_setRules rm_X4_setRules (va_Pc [.ref (ad 0 0), .int (nI ra), .int (nI rb), .int z] (k_I g (k_ct g ad t) ad)) (va_Qv (fun _ => False) (fun u U => k_H g ad u U.heap) (k_A g)) (vx_X (fun u => u = t) (fun E u U => E = "java/lang/IllegalArgumentException" ∧ k_H g ad u U.heap) (k_A g)) 3 18 (k_A g) := by
  refine k_metX (cc := cX4_setRules) (maxL := 4) (ret := (some .int)) (by decide) rfl (Nat.le_of_ble_eq_true rfl) (fun p e s m args below meth c Q ls hQ hx hb hr hml hts hown hlk hin hout hK hZ hN hW hS hl => ?_)
  have hown : s.vm.findClass RX4 = some m.cls := hown
  have hW : k_H g ad t s.heap := hW
  have hl : lv_has ls 4 [(0, .ref (ad 0 0)), (1, .int (nI ra)), (2, .int (nI rb)), (3, .int z)] := hl
  have hatIA : ∀ w ∈ (vx_atS RX4 42 "java/lang/IllegalArgumentException" ["java/lang/RuntimeException", "java/lang/Exception"]).filter goodWord, w ∈ wsX4_setRules := by decide +kernel
  refine lv_iload_n hx hb dX4_setRules_0 rfl (lv_at hl 1 rfl) ?_
  refine k_if_lt (tgt := 10) hx hb (by omega) dX4_setRules_1 (by decide) ?_
  refine lv_iload_n hx hb dX4_setRules_4 rfl (lv_at hl 1 rfl) ?_
  refine lv_bipush (v := nI 30) hx hb dX4_setRules_5 (by decide) ?_
  refine k_icmp_le (tgt := 20) hx hb (a := ra) (b := 30) (by omega) (by decide) dX4_setRules_7 (by decide) (fun h_7 => ?_) (fun h_7 => absurd h_7 (by omega))
  refine lv_iload_n hx hb dX4_setRules_20 rfl (lv_at hl 2 rfl) ?_
  refine k_if_lt (tgt := 30) hx hb (by omega) dX4_setRules_21 (by decide) ?_
  refine lv_iload_n hx hb dX4_setRules_24 rfl (lv_at hl 2 rfl) ?_
  refine lv_bipush (v := nI 20) hx hb dX4_setRules_25 (by decide) ?_
  refine k_icmp_le (tgt := 40) hx hb (a := rb) (b := 20) (by omega) (by decide) dX4_setRules_27 (by decide) (fun h_27 => ?_) (fun h_27 => absurd h_27 (by omega))
  refine lv_iload_n hx hb dX4_setRules_40 rfl (lv_at hl 3 rfl) ?_
  refine lv_if_lt (tgt := 50) hx hb dX4_setRules_41 (by decide) (fun h_41 => ?_) (fun h_41 => absurd h_41 (fun q => q hz))
  exact k_throw (text := "months is out of range") hQ hout hx hb hlt hml hlk hown hts (by decide) (by decide +kernel) (by decide +kernel) hatIA k_badIA k_goodIA_38 (by decide +kernel) (by decide +kernel) hK hZ hS hW hl rfl dX4_setRules_50 dX4_setRules_53 dX4_setRules_54 dX4_setRules_56 dX4_setRules_59 (Nat.le_of_ble_eq_true rfl) (Nat.le_of_ble_eq_true rfl) (Nat.le_of_ble_eq_true rfl) (Nat.le_of_ble_eq_true rfl) (Nat.le_of_ble_eq_true rfl) (Nat.le_of_ble_eq_true rfl)
set_option maxRecDepth 100000 in
set_option maxHeartbeats 4000000 in
theorem c_X4_setRules_3hi (l : Launch) (hlt : l.stackTraces = false) (g : k_g) (ad : k_AD) (t : k_T) (ra : Nat) (rb : Nat) (z : Int32) (h1 : ra ≤ 30) (h2 : rb ≤ 20) (hz : nI 12 < z) : vx_Met l yX4_setRules wsX4_setRules rm_X4_setRules (va_Pc [.ref (ad 0 0), .int (nI ra), .int (nI rb), .int z] (k_I g (k_ct g ad t) ad)) (va_Qv (fun _ => False) (fun u U => k_H g ad u U.heap) (k_A g)) (vx_X (fun u => u = t) (fun E u U => E = "java/lang/IllegalArgumentException" ∧ k_H g ad u U.heap) (k_A g)) 3 18 (k_A g) := by
  refine k_metX (cc := cX4_setRules) (maxL := 4) (ret := (some .int)) (by decide) rfl (Nat.le_of_ble_eq_true rfl) (fun p e s m args below meth c Q ls hQ hx hb hr hml hts hown hlk hin hout hK hZ hN hW hS hl => ?_)
  have hown : s.vm.findClass RX4 = some m.cls := hown
  have hW : k_H g ad t s.heap := hW
  have hl : lv_has ls 4 [(0, .ref (ad 0 0)), (1, .int (nI ra)), (2, .int (nI rb)), (3, .int z)] := hl
  have hatIA : ∀ w ∈ (vx_atS RX4 42 "java/lang/IllegalArgumentException" ["java/lang/RuntimeException", "java/lang/Exception"]).filter goodWord, w ∈ wsX4_setRules := by decide +kernel
  refine lv_iload_n hx hb dX4_setRules_0 rfl (lv_at hl 1 rfl) ?_
  refine k_if_lt (tgt := 10) hx hb (by omega) dX4_setRules_1 (by decide) ?_
  refine lv_iload_n hx hb dX4_setRules_4 rfl (lv_at hl 1 rfl) ?_
  refine lv_bipush (v := nI 30) hx hb dX4_setRules_5 (by decide) ?_
  refine k_icmp_le (tgt := 20) hx hb (a := ra) (b := 30) (by omega) (by decide) dX4_setRules_7 (by decide) (fun h_7 => ?_) (fun h_7 => absurd h_7 (by omega))
  refine lv_iload_n hx hb dX4_setRules_20 rfl (lv_at hl 2 rfl) ?_
  refine k_if_lt (tgt := 30) hx hb (by omega) dX4_setRules_21 (by decide) ?_
  refine lv_iload_n hx hb dX4_setRules_24 rfl (lv_at hl 2 rfl) ?_
  refine lv_bipush (v := nI 20) hx hb dX4_setRules_25 (by decide) ?_
  refine k_icmp_le (tgt := 40) hx hb (a := rb) (b := 20) (by omega) (by decide) dX4_setRules_27 (by decide) (fun h_27 => ?_) (fun h_27 => absurd h_27 (by omega))
  refine lv_iload_n hx hb dX4_setRules_40 rfl (lv_at hl 3 rfl) ?_
  refine lv_if_lt (tgt := 50) hx hb dX4_setRules_41 (by decide) (fun h_41 => absurd h_41 (k_gt_nneg hz (by decide))) (fun h_41 => ?_)
  refine lv_iload_n hx hb dX4_setRules_44 rfl (lv_at hl 3 rfl) ?_
  refine lv_bipush (v := nI 12) hx hb dX4_setRules_45 (by decide) ?_
  refine lv_icmp_le (tgt := 60) hx hb dX4_setRules_47 (by decide) (fun h_47 => absurd h_47 (Int32.not_le.mpr hz)) (fun h_47 => ?_)
  exact k_throw (text := "months is out of range") hQ hout hx hb hlt hml hlk hown hts (by decide) (by decide +kernel) (by decide +kernel) hatIA k_badIA k_goodIA_38 (by decide +kernel) (by decide +kernel) hK hZ hS hW hl rfl dX4_setRules_50 dX4_setRules_53 dX4_setRules_54 dX4_setRules_56 dX4_setRules_59 (Nat.le_of_ble_eq_true rfl) (Nat.le_of_ble_eq_true rfl) (Nat.le_of_ble_eq_true rfl) (Nat.le_of_ble_eq_true rfl) (Nat.le_of_ble_eq_true rfl) (Nat.le_of_ble_eq_true rfl)
set_option maxRecDepth 100000 in
set_option maxHeartbeats 4000000 in
theorem c_X4_setRules_3b (l : Launch) (hlt : l.stackTraces = false) (g : k_g) (ad : k_AD) (t : k_T) (ra : Nat) (rb : Nat) (z : Int32) (h1 : ra ≤ 30) (h2 : rb ≤ 20) (hz : z < 0 ∨ nI 12 < z) : vx_Met l yX4_setRules wsX4_setRules rm_X4_setRules (va_Pc [.ref (ad 0 0), .int (nI ra), .int (nI rb), .int z] (k_I g (k_ct g ad t) ad)) (va_Qv (fun _ => False) (fun u U => k_H g ad u U.heap) (k_A g)) (vx_X (fun u => u = t) (fun E u U => E = "java/lang/IllegalArgumentException" ∧ k_H g ad u U.heap) (k_A g)) 3 18 (k_A g) := by
  rcases hz with h | h
  · exact c_X4_setRules_3lo l hlt g ad t ra rb z h1 h2 h
  · exact c_X4_setRules_3hi l hlt g ad t ra rb z h1 h2 h
set_option maxRecDepth 100000 in
set_option maxHeartbeats 4000000 in
theorem c_X4_setRules_ok (l : Launch) (hlt : l.stackTraces = false) (g : k_g) (ad : k_AD) (t : k_T) (ra : Nat) (rb : Nat) (rc : Nat) (h1 : ra ≤ 30) (h2 : rb ≤ 20) (h3 : rc ≤ 12) (hwf : ∀ j, s_th t j = true → j < o_n t) (hbs : ∀ k b, k < o_n t → o_b t k = some b → b < o_n t ∧ b < k) (hth : ∀ j b, s_th t j = true → o_b t j = some b → s_th t b = true) (hn60 : o_n t ≤ 60) (hon : ∀ j, j < o_n t → o_on t j ≤ 360) : Met l yX4_setRules wsX4_setRules rm_X4_setRules (va_Pc [.ref (ad 0 0), .int (nI ra), .int (nI rb), .int (nI rc)] (k_I g (k_ct g ad t) ad)) (va_Qi (fun r u => r = nI (k_cb (fun k => (s_th t) k && (k_Pm (s_th t) (o_pm t) (o_on t) (ra) (rb) (rc)) k) 60) ∧ u = set_o_nd (set_o_pm (set_s_r3 (set_s_r2 (set_s_r1 t ra) rb) rc) (k_Pm (s_th t) (o_pm t) (o_on t) (ra) (rb) (rc))) (k_Nm (s_th t) (o_nd t) (k_Pm (s_th t) (o_pm t) (o_on t) (ra) (rb) (rc)) (o_b t))) (fun u U => k_H g ad u U.heap) (k_A g)) 3 18 (k_A g) := by
  refine k_met (cc := cX4_setRules) (maxL := 4) (ret := (some .int)) (by decide) rfl (Nat.le_of_ble_eq_true rfl) (fun p e s m args below meth c Q ls hQ hx hb hr hml hts hown hlk hin hK hZ hN hW hS hl => ?_)
  have hown : s.vm.findClass RX4 = some m.cls := hown
  have hW : k_H g ad t s.heap := hW
  have hl : lv_has ls 4 [(0, .ref (ad 0 0)), (1, .int (nI ra)), (2, .int (nI rb)), (3, .int (nI rc))] := hl
  have hinX3 : ∀ w ∈ wsX30, w ∈ wsX4_setRules := by decide +kernel
  have hinX4 : ∀ w ∈ wsX40, w ∈ wsX4_setRules := by decide +kernel
  refine lv_iload_n hx hb dX4_setRules_0 rfl (lv_at hl 1 rfl) ?_
  refine k_if_lt (tgt := 10) hx hb (by omega) dX4_setRules_1 (by decide) ?_
  refine lv_iload_n hx hb dX4_setRules_4 rfl (lv_at hl 1 rfl) ?_
  refine lv_bipush (v := nI 30) hx hb dX4_setRules_5 (by decide) ?_
  refine k_icmp_le (tgt := 20) hx hb (a := ra) (b := 30) (by omega) (by decide) dX4_setRules_7 (by decide) (fun h_7 => ?_) (fun h_7 => absurd h_7 (by omega))
  refine lv_iload_n hx hb dX4_setRules_20 rfl (lv_at hl 2 rfl) ?_
  refine k_if_lt (tgt := 30) hx hb (by omega) dX4_setRules_21 (by decide) ?_
  refine lv_iload_n hx hb dX4_setRules_24 rfl (lv_at hl 2 rfl) ?_
  refine lv_bipush (v := nI 20) hx hb dX4_setRules_25 (by decide) ?_
  refine k_icmp_le (tgt := 40) hx hb (a := rb) (b := 20) (by omega) (by decide) dX4_setRules_27 (by decide) (fun h_27 => ?_) (fun h_27 => absurd h_27 (by omega))
  refine lv_iload_n hx hb dX4_setRules_40 rfl (lv_at hl 3 rfl) ?_
  refine k_if_lt (tgt := 50) hx hb (by omega) dX4_setRules_41 (by decide) ?_
  refine lv_iload_n hx hb dX4_setRules_44 rfl (lv_at hl 3 rfl) ?_
  refine lv_bipush (v := nI 12) hx hb dX4_setRules_45 (by decide) ?_
  refine k_icmp_le (tgt := 60) hx hb (a := rc) (b := 12) (by omega) (by decide) dX4_setRules_47 (by decide) (fun h_47 => ?_) (fun h_47 => absurd h_47 (by omega))
  refine lv_aload_n hx hb dX4_setRules_60 rfl (lv_at hl 0 rfl) ?_
  refine k_get (own := RX4) (C := RX4) (T := TX4) (N := 4) hx hb hts hinX4 hown hK hW (kc_0 g ad t) rfl 1 (by decide) (hts (.fieldLink RX4 19 "DrillVault" "shelf" "LDrillVault$Shelf;") (by decide +kernel)) rfl (v := .ref (ad 5 0)) rfl dX4_setRules_61 ?_
  refine lv_iload_n hx hb dX4_setRules_64 rfl (lv_at hl 1 rfl) ?_
  refine k_putN (host := RX4) (index := 128) (own := RX4) (C := RX3) (T := TX3) (N := 5) hx hb hts hinX3 tyX3 tyX3_ok nmX3 hown hK hW hS (kc_5 g ad t) rfl 2 (by decide) (by decide +kernel) rfl rfl (ty := tyX3 2) (v := .int (nI ra)) (tyX3_ok 2 (by decide)) rfl rfl (Nat.le_of_ble_eq_true rfl) dX4_setRules_65 (fun H locs hW hS => ?_)
  have hW : k_H g ad (set_s_r1 t ra) H := kt_s_r1 (t := t) ra rfl hW
  refine lv_aload_n hx hb dX4_setRules_68 rfl (lv_at hl 0 rfl) ?_
  refine k_get (own := RX4) (C := RX4) (T := TX4) (N := 4) hx hb hts hinX4 hown hK hW (kc_0 g ad (set_s_r1 t ra)) rfl 1 (by decide) (hts (.fieldLink RX4 19 "DrillVault" "shelf" "LDrillVault$Shelf;") (by decide +kernel)) rfl (v := .ref (ad 5 0)) rfl dX4_setRules_69 ?_
  refine lv_iload_n hx hb dX4_setRules_72 rfl (lv_at hl 2 rfl) ?_
  refine k_putN (host := RX4) (index := 131) (own := RX4) (C := RX3) (T := TX3) (N := 5) hx hb hts hinX3 tyX3 tyX3_ok nmX3 hown hK hW hS (kc_5 g ad (set_s_r1 t ra)) rfl 3 (by decide) (by decide +kernel) rfl rfl (ty := tyX3 3) (v := .int (nI rb)) (tyX3_ok 3 (by decide)) rfl rfl (Nat.le_of_ble_eq_true rfl) dX4_setRules_73 (fun H locs hW hS => ?_)
  have hW : k_H g ad (set_s_r2 (set_s_r1 t ra) rb) H := kt_s_r2 (t := set_s_r1 t ra) rb rfl hW
  refine lv_aload_n hx hb dX4_setRules_76 rfl (lv_at hl 0 rfl) ?_
  refine k_get (own := RX4) (C := RX4) (T := TX4) (N := 4) hx hb hts hinX4 hown hK hW (kc_0 g ad (set_s_r2 (set_s_r1 t ra) rb)) rfl 1 (by decide) (hts (.fieldLink RX4 19 "DrillVault" "shelf" "LDrillVault$Shelf;") (by decide +kernel)) rfl (v := .ref (ad 5 0)) rfl dX4_setRules_77 ?_
  refine lv_iload_n hx hb dX4_setRules_80 rfl (lv_at hl 3 rfl) ?_
  refine k_putN (host := RX4) (index := 134) (own := RX4) (C := RX3) (T := TX3) (N := 5) hx hb hts hinX3 tyX3 tyX3_ok nmX3 hown hK hW hS (kc_5 g ad (set_s_r2 (set_s_r1 t ra) rb)) rfl 4 (by decide) (by decide +kernel) rfl rfl (ty := tyX3 4) (v := .int (nI rc)) (tyX3_ok 4 (by decide)) rfl rfl (Nat.le_of_ble_eq_true rfl) dX4_setRules_81 (fun H locs hW hS => ?_)
  have hW : k_H g ad (set_s_r3 (set_s_r2 (set_s_r1 t ra) rb) rc) H := kt_s_r3 (t := set_s_r2 (set_s_r1 t ra) rb) rc rfl hW
  refine lv_aload_n hx hb dX4_setRules_84 rfl (lv_at hl 0 rfl) ?_
  refine k_get (own := RX4) (C := RX4) (T := TX4) (N := 4) hx hb hts hinX4 hown hK hW (kc_0 g ad (set_s_r3 (set_s_r2 (set_s_r1 t ra) rb) rc)) rfl 1 (by decide) (hts (.fieldLink RX4 19 "DrillVault" "shelf" "LDrillVault$Shelf;") (by decide +kernel)) rfl (v := .ref (ad 5 0)) rfl dX4_setRules_85 ?_
  refine k_ci (va_runV (As := []) (rest := []) ⟨hx, hb, hml, hown, hts⟩ (c_X3_countPromised l hlt g ad (set_s_r3 (set_s_r2 (set_s_r1 t ra) rb) rc) hwf hbs hth hn60 hon h1 (Nat.le_trans h2 (by decide)) (Nat.le_trans h3 (by decide))) (cwV 0 hts gX4_setRules_X3_countPromised rfl rfl rfl (by decide +kernel) ⟨(Nat.le_of_ble_eq_true rfl), (Nat.le_of_ble_eq_true rfl)⟩) ⟨k_blind, k_recv hK hW (kc_5 g ad (set_s_r3 (set_s_r2 (set_s_r1 t ra) rb) rc)) rfl, fun U hU hw => ⟨rfl, k_I.of hK hZ hN hS hW hU hw⟩⟩ rfl rfl hl.1 rfl (lv_room (Nat.le_of_ble_eq_true rfl)) dX4_setRules_88 ⟨(Nat.le_of_ble_eq_true rfl), (Nat.le_of_ble_eq_true rfl)⟩) hS (fun r u H locs hpo hW hS => ?_)
  obtain ⟨hr9, hu9⟩ := hpo; replace hu9 := hu9.symm; subst hu9; replace hr9 := hr9.symm; subst hr9
  have hW : k_H g ad (set_o_nd (set_o_pm (set_s_r3 (set_s_r2 (set_s_r1 t ra) rb) rc) (k_Pm (s_th t) (o_pm t) (o_on t) (ra) (rb) (rc))) (k_Nm (s_th t) (o_nd t) (k_Pm (s_th t) (o_pm t) (o_on t) (ra) (rb) (rc)) (o_b t))) H := hW
  exact k_ri hQ hx hb hr hlk hS hW ⟨rfl, rfl⟩ (Nat.le_of_ble_eq_true rfl) (Nat.le_of_ble_eq_true rfl) dX4_setRules_91
abbrev rm_X4_thin : Room := { frames := 4, cells := 0, slots := 0, locals := 94 }
set_option maxRecDepth 100000 in
set_option maxHeartbeats 4000000 in
theorem c_X4_thin (l : Launch) (hlt : l.stackTraces = false) (g : k_g) (ad : k_AD) (t : k_T) (hwf : ∀ j, s_th t j = true → j < o_n t) (hbs : ∀ k b, k < o_n t → o_b t k = some b → b < o_n t ∧ b < k) (hth : ∀ j b, s_th t j = true → o_b t j = some b → s_th t b = true) (hn60 : o_n t ≤ 60) (hon : ∀ j, j < o_n t → o_on t j ≤ 360) (hr1 : s_r1 t ≤ 30) (hr2 : s_r2 t ≤ 30) (hr3 : s_r3 t ≤ 30) : Met l yX4_thin wsX4_thin rm_X4_thin (va_Pc [.ref (ad 0 0)] (k_I g (k_ct g ad t) ad)) (va_Qi (fun r u => r = nI (k_sm (fun k => (s_th t) k && !(k_Hd (s_th t) (k_Nm (s_th t) (o_nd t) (k_Pm (s_th t) (o_pm t) (o_on t) (s_r1 t) (s_r2 t) (s_r3 t)) (o_b t)) (o_b t) (o_on t) (o_hd t) (k_lp (fun k => (s_th t) k && (o_pv t) k) (o_on t) 60)) k) (fun k => (o_kc t) k + 1) 60) ∧ u = set_s_th (set_o_hd (set_o_nd (set_o_pm t (k_Pm (s_th t) (o_pm t) (o_on t) (s_r1 t) (s_r2 t) (s_r3 t))) (k_Nm (s_th t) (o_nd t) (k_Pm (s_th t) (o_pm t) (o_on t) (s_r1 t) (s_r2 t) (s_r3 t)) (o_b t))) (k_Hd (s_th t) (k_Nm (s_th t) (o_nd t) (k_Pm (s_th t) (o_pm t) (o_on t) (s_r1 t) (s_r2 t) (s_r3 t)) (o_b t)) (o_b t) (o_on t) (o_hd t) (k_lp (fun k => (s_th t) k && (o_pv t) k) (o_on t) 60))) (fun j => (s_th t) j && (k_Hd (s_th t) (k_Nm (s_th t) (o_nd t) (k_Pm (s_th t) (o_pm t) (o_on t) (s_r1 t) (s_r2 t) (s_r3 t)) (o_b t)) (o_b t) (o_on t) (o_hd t) (k_lp (fun k => (s_th t) k && (o_pv t) k) (o_on t) 60)) j)) (fun u U => k_H g ad u U.heap) (k_A g)) 0 0 (k_A g) := by
  refine k_met (cc := cX4_thin) (maxL := 1) (ret := (some .int)) (by decide) rfl (Nat.le_of_ble_eq_true rfl) (fun p e s m args below meth c Q ls hQ hx hb hr hml hts hown hlk hin hK hZ hN hW hS hl => ?_)
  have hown : s.vm.findClass RX4 = some m.cls := hown
  have hW : k_H g ad t s.heap := hW
  have hl : lv_has ls 1 [(0, .ref (ad 0 0))] := hl
  have hinX4 : ∀ w ∈ wsX40, w ∈ wsX4_thin := by decide +kernel
  refine lv_aload_n hx hb dX4_thin_0 rfl (lv_at hl 0 rfl) ?_
  refine k_get (own := RX4) (C := RX4) (T := TX4) (N := 4) hx hb hts hinX4 hown hK hW (kc_0 g ad t) rfl 1 (by decide) (hts (.fieldLink RX4 19 "DrillVault" "shelf" "LDrillVault$Shelf;") (by decide +kernel)) rfl (v := .ref (ad 5 0)) rfl dX4_thin_1 ?_
  refine k_ci (va_runV (As := []) (rest := []) ⟨hx, hb, hml, hown, hts⟩ (c_X3_takeOffLoose l hlt g ad t hwf hbs hth hn60 hon hr1 hr2 hr3) (cwV 0 hts gX4_thin_X3_takeOffLoose rfl rfl rfl (by decide +kernel) ⟨(Nat.le_of_ble_eq_true rfl), (Nat.le_of_ble_eq_true rfl)⟩) ⟨k_blind, k_recv hK hW (kc_5 g ad t) rfl, fun U hU hw => ⟨rfl, k_I.of hK hZ hN hS hW hU hw⟩⟩ rfl rfl hl.1 rfl (lv_room (Nat.le_of_ble_eq_true rfl)) dX4_thin_4 ⟨(Nat.le_of_ble_eq_true rfl), (Nat.le_of_ble_eq_true rfl)⟩) hS (fun r u H locs hpo hW hS => ?_)
  obtain ⟨hr9, hu9⟩ := hpo; replace hu9 := hu9.symm; subst hu9; replace hr9 := hr9.symm; subst hr9
  have hW : k_H g ad (set_s_th (set_o_hd (set_o_nd (set_o_pm t (k_Pm (s_th t) (o_pm t) (o_on t) (s_r1 t) (s_r2 t) (s_r3 t))) (k_Nm (s_th t) (o_nd t) (k_Pm (s_th t) (o_pm t) (o_on t) (s_r1 t) (s_r2 t) (s_r3 t)) (o_b t))) (k_Hd (s_th t) (k_Nm (s_th t) (o_nd t) (k_Pm (s_th t) (o_pm t) (o_on t) (s_r1 t) (s_r2 t) (s_r3 t)) (o_b t)) (o_b t) (o_on t) (o_hd t) (k_lp (fun k => (s_th t) k && (o_pv t) k) (o_on t) 60))) (fun j => (s_th t) j && (k_Hd (s_th t) (k_Nm (s_th t) (o_nd t) (k_Pm (s_th t) (o_pm t) (o_on t) (s_r1 t) (s_r2 t) (s_r3 t)) (o_b t)) (o_b t) (o_on t) (o_hd t) (k_lp (fun k => (s_th t) k && (o_pv t) k) (o_on t) 60)) j)) H := hW
  exact k_ri hQ hx hb hr hlk hS hW ⟨rfl, rfl⟩ (Nat.le_of_ble_eq_true rfl) (Nat.le_of_ble_eq_true rfl) dX4_thin_7
abbrev rm_X4_day : Room := { frames := 0, cells := 0, slots := 0, locals := 0 }
set_option maxRecDepth 100000 in
set_option maxHeartbeats 4000000 in
theorem c_X4_day (l : Launch) (hlt : l.stackTraces = false) (g : k_g) (ad : k_AD) (t : k_T)  : Met l yX4_day wsX4_day rm_X4_day (va_Pc [.ref (ad 0 0)] (k_I g (k_ct g ad t) ad)) (va_Qi (fun r u => r = nI (x_d t) ∧ u = t) (fun u U => k_H g ad u U.heap) (k_A g)) 0 0 (k_A g) := by
  refine k_met (cc := cX4_day) (maxL := 1) (ret := (some .int)) (by decide) rfl (Nat.le_of_ble_eq_true rfl) (fun p e s m args below meth c Q ls hQ hx hb hr hml hts hown hlk hin hK hZ hN hW hS hl => ?_)
  have hown : s.vm.findClass RX4 = some m.cls := hown
  have hW : k_H g ad t s.heap := hW
  have hl : lv_has ls 1 [(0, .ref (ad 0 0))] := hl
  have hinX4 : ∀ w ∈ wsX40, w ∈ wsX4_day := by decide +kernel
  refine lv_aload_n hx hb dX4_day_0 rfl (lv_at hl 0 rfl) ?_
  refine k_get (own := RX4) (C := RX4) (T := TX4) (N := 4) hx hb hts hinX4 hown hK hW (kc_0 g ad t) rfl 3 (by decide) (hts (.fieldLink RX4 30 "DrillVault" "today" "I") (by decide +kernel)) rfl (v := .int (nI (x_d t))) rfl dX4_day_1 ?_
  exact k_ri hQ hx hb hr hlk hS hW ⟨rfl, rfl⟩ (Nat.le_of_ble_eq_true rfl) (Nat.le_of_ble_eq_true rfl) dX4_day_4
abbrev rm_X4_copies : Room := { frames := 1, cells := 0, slots := 0, locals := 25 }
set_option maxRecDepth 100000 in
set_option maxHeartbeats 4000000 in
theorem c_X4_copies (l : Launch) (hlt : l.stackTraces = false) (g : k_g) (ad : k_AD) (t : k_T) (hwf : ∀ j, s_th t j = true → j < o_n t) : Met l yX4_copies wsX4_copies rm_X4_copies (va_Pc [.ref (ad 0 0)] (k_I g (k_ct g ad t) ad)) (va_Qi (fun r u => r = nI (k_cb (s_th t) 60) ∧ u = t) (fun u U => k_H g ad u U.heap) (k_A g)) 0 0 (k_A g) := by
  refine k_met (cc := cX4_copies) (maxL := 1) (ret := (some .int)) (by decide) rfl (Nat.le_of_ble_eq_true rfl) (fun p e s m args below meth c Q ls hQ hx hb hr hml hts hown hlk hin hK hZ hN hW hS hl => ?_)
  have hown : s.vm.findClass RX4 = some m.cls := hown
  have hW : k_H g ad t s.heap := hW
  have hl : lv_has ls 1 [(0, .ref (ad 0 0))] := hl
  have hinX4 : ∀ w ∈ wsX40, w ∈ wsX4_copies := by decide +kernel
  refine lv_aload_n hx hb dX4_copies_0 rfl (lv_at hl 0 rfl) ?_
  refine k_get (own := RX4) (C := RX4) (T := TX4) (N := 4) hx hb hts hinX4 hown hK hW (kc_0 g ad t) rfl 1 (by decide) (hts (.fieldLink RX4 19 "DrillVault" "shelf" "LDrillVault$Shelf;") (by decide +kernel)) rfl (v := .ref (ad 5 0)) rfl dX4_copies_1 ?_
  refine k_ci (va_runV (As := []) (rest := []) ⟨hx, hb, hml, hown, hts⟩ (c_X3_countThere l hlt g ad t hwf) (cwV 0 hts gX4_copies_X3_countThere rfl rfl rfl (by decide +kernel) ⟨(Nat.le_of_ble_eq_true rfl), (Nat.le_of_ble_eq_true rfl)⟩) ⟨k_blind, k_recv hK hW (kc_5 g ad t) rfl, fun U hU hw => ⟨rfl, k_I.of hK hZ hN hS hW hU hw⟩⟩ rfl rfl hl.1 rfl (lv_room (Nat.le_of_ble_eq_true rfl)) dX4_copies_4 ⟨(Nat.le_of_ble_eq_true rfl), (Nat.le_of_ble_eq_true rfl)⟩) hS (fun r u H locs hpo hW hS => ?_)
  obtain ⟨hr9, hu9⟩ := hpo; replace hu9 := hu9.symm; subst hu9; replace hr9 := hr9.symm; subst hr9
  exact k_ri hQ hx hb hr hlk hS hW ⟨rfl, rfl⟩ (Nat.le_of_ble_eq_true rfl) (Nat.le_of_ble_eq_true rfl) dX4_copies_7
abbrev rm_X4_space : Room := { frames := 2, cells := 0, slots := 0, locals := 45 }
set_option maxRecDepth 100000 in
set_option maxHeartbeats 4000000 in
theorem c_X4_space (l : Launch) (hlt : l.stackTraces = false) (g : k_g) (ad : k_AD) (t : k_T) (hwf : ∀ j, s_th t j = true → j < o_n t) : Met l yX4_space wsX4_space rm_X4_space (va_Pc [.ref (ad 0 0)] (k_I g (k_ct g ad t) ad)) (va_Qi (fun r u => r = nI (k_sm (s_th t) (fun k => (o_kc t) k + 1) 60) ∧ u = t) (fun u U => k_H g ad u U.heap) (k_A g)) 0 0 (k_A g) := by
  refine k_met (cc := cX4_space) (maxL := 1) (ret := (some .int)) (by decide) rfl (Nat.le_of_ble_eq_true rfl) (fun p e s m args below meth c Q ls hQ hx hb hr hml hts hown hlk hin hK hZ hN hW hS hl => ?_)
  have hown : s.vm.findClass RX4 = some m.cls := hown
  have hW : k_H g ad t s.heap := hW
  have hl : lv_has ls 1 [(0, .ref (ad 0 0))] := hl
  have hinX4 : ∀ w ∈ wsX40, w ∈ wsX4_space := by decide +kernel
  refine lv_aload_n hx hb dX4_space_0 rfl (lv_at hl 0 rfl) ?_
  refine k_get (own := RX4) (C := RX4) (T := TX4) (N := 4) hx hb hts hinX4 hown hK hW (kc_0 g ad t) rfl 1 (by decide) (hts (.fieldLink RX4 19 "DrillVault" "shelf" "LDrillVault$Shelf;") (by decide +kernel)) rfl (v := .ref (ad 5 0)) rfl dX4_space_1 ?_
  refine k_ci (va_runV (As := []) (rest := []) ⟨hx, hb, hml, hown, hts⟩ (c_X3_spaceTaken l hlt g ad t hwf) (cwV 0 hts gX4_space_X3_spaceTaken rfl rfl rfl (by decide +kernel) ⟨(Nat.le_of_ble_eq_true rfl), (Nat.le_of_ble_eq_true rfl)⟩) ⟨k_blind, k_recv hK hW (kc_5 g ad t) rfl, fun U hU hw => ⟨rfl, k_I.of hK hZ hN hS hW hU hw⟩⟩ rfl rfl hl.1 rfl (lv_room (Nat.le_of_ble_eq_true rfl)) dX4_space_4 ⟨(Nat.le_of_ble_eq_true rfl), (Nat.le_of_ble_eq_true rfl)⟩) hS (fun r u H locs hpo hW hS => ?_)
  obtain ⟨hr9, hu9⟩ := hpo; replace hu9 := hu9.symm; subst hu9; replace hr9 := hr9.symm; subst hr9
  exact k_ri hQ hx hb hr hlk hS hW ⟨rfl, rfl⟩ (Nat.le_of_ble_eq_true rfl) (Nat.le_of_ble_eq_true rfl) dX4_space_7
abbrev rm_X4_onCall : Room := { frames := 6, cells := 1, slots := 6, locals := 90 }
set_option maxRecDepth 100000 in
set_option maxHeartbeats 4000000 in
theorem c_X4_onCall_lo (l : Launch) (hlt : l.stackTraces = false) (g : k_g) (ad : k_AD) (t : k_T) (z : Int32) (hz : z < 0) : vx_Met l yX4_onCall wsX4_onCall rm_X4_onCall (va_Pc [.ref (ad 0 0), .int z] (k_I g (k_ct g ad t) ad)) (va_Qv (fun _ => False) (fun u U => k_H g ad u U.heap) (k_A g)) (vx_X (fun u => u = t) (fun E u U => E = "java/lang/IllegalArgumentException" ∧ k_H g ad u U.heap) (k_A g)) 1 6 (k_A g) := by
  refine k_metX (cc := cX4_onCall) (maxL := 2) (ret := (some .int)) (by decide) rfl (Nat.le_of_ble_eq_true rfl) (fun p e s m args below meth c Q ls hQ hx hb hr hml hts hown hlk hin hout hK hZ hN hW hS hl => ?_)
  have hown : s.vm.findClass RX4 = some m.cls := hown
  have hW : k_H g ad t s.heap := hW
  have hl : lv_has ls 2 [(0, .ref (ad 0 0)), (1, .int z)] := hl
  have hatIA : ∀ w ∈ (vx_atS RX4 42 "java/lang/IllegalArgumentException" ["java/lang/RuntimeException", "java/lang/Exception"]).filter goodWord, w ∈ wsX4_onCall := by decide +kernel
  refine lv_iload_n hx hb dX4_onCall_0 rfl (lv_at hl 1 rfl) ?_
  refine lv_if_lt (tgt := 11) hx hb dX4_onCall_1 (by decide) (fun h_1 => ?_) (fun h_1 => absurd h_1 (fun q => q hz))
  exact k_throw (text := "day is out of range") hQ hout hx hb hlt hml hlk hown hts (by decide) (by decide +kernel) (by decide +kernel) hatIA k_badIA k_goodIA_38 (by decide +kernel) (by decide +kernel) hK hZ hS hW hl rfl dX4_onCall_11 dX4_onCall_14 dX4_onCall_15 dX4_onCall_17 dX4_onCall_20 (Nat.le_of_ble_eq_true rfl) (Nat.le_of_ble_eq_true rfl) (Nat.le_of_ble_eq_true rfl) (Nat.le_of_ble_eq_true rfl) (Nat.le_of_ble_eq_true rfl) (Nat.le_of_ble_eq_true rfl)
set_option maxRecDepth 100000 in
set_option maxHeartbeats 4000000 in
theorem c_X4_onCall_hi (l : Launch) (hlt : l.stackTraces = false) (g : k_g) (ad : k_AD) (t : k_T) (z : Int32) (hz : nI 364 < z) : vx_Met l yX4_onCall wsX4_onCall rm_X4_onCall (va_Pc [.ref (ad 0 0), .int z] (k_I g (k_ct g ad t) ad)) (va_Qv (fun _ => False) (fun u U => k_H g ad u U.heap) (k_A g)) (vx_X (fun u => u = t) (fun E u U => E = "java/lang/IllegalArgumentException" ∧ k_H g ad u U.heap) (k_A g)) 1 6 (k_A g) := by
  refine k_metX (cc := cX4_onCall) (maxL := 2) (ret := (some .int)) (by decide) rfl (Nat.le_of_ble_eq_true rfl) (fun p e s m args below meth c Q ls hQ hx hb hr hml hts hown hlk hin hout hK hZ hN hW hS hl => ?_)
  have hown : s.vm.findClass RX4 = some m.cls := hown
  have hW : k_H g ad t s.heap := hW
  have hl : lv_has ls 2 [(0, .ref (ad 0 0)), (1, .int z)] := hl
  have hatIA : ∀ w ∈ (vx_atS RX4 42 "java/lang/IllegalArgumentException" ["java/lang/RuntimeException", "java/lang/Exception"]).filter goodWord, w ∈ wsX4_onCall := by decide +kernel
  refine lv_iload_n hx hb dX4_onCall_0 rfl (lv_at hl 1 rfl) ?_
  refine lv_if_lt (tgt := 11) hx hb dX4_onCall_1 (by decide) (fun h_1 => absurd h_1 (k_gt_nneg hz (by decide))) (fun h_1 => ?_)
  refine lv_iload_n hx hb dX4_onCall_4 rfl (lv_at hl 1 rfl) ?_
  refine lv_sipush (v := nI 364) hx hb dX4_onCall_5 (by decide) ?_
  refine lv_icmp_le (tgt := 21) hx hb dX4_onCall_8 (by decide) (fun h_8 => absurd h_8 (Int32.not_le.mpr hz)) (fun h_8 => ?_)
  exact k_throw (text := "day is out of range") hQ hout hx hb hlt hml hlk hown hts (by decide) (by decide +kernel) (by decide +kernel) hatIA k_badIA k_goodIA_38 (by decide +kernel) (by decide +kernel) hK hZ hS hW hl rfl dX4_onCall_11 dX4_onCall_14 dX4_onCall_15 dX4_onCall_17 dX4_onCall_20 (Nat.le_of_ble_eq_true rfl) (Nat.le_of_ble_eq_true rfl) (Nat.le_of_ble_eq_true rfl) (Nat.le_of_ble_eq_true rfl) (Nat.le_of_ble_eq_true rfl) (Nat.le_of_ble_eq_true rfl)
set_option maxRecDepth 100000 in
set_option maxHeartbeats 4000000 in
theorem c_X4_onCall_b (l : Launch) (hlt : l.stackTraces = false) (g : k_g) (ad : k_AD) (t : k_T) (z : Int32) (hz : z < 0 ∨ nI 364 < z) : vx_Met l yX4_onCall wsX4_onCall rm_X4_onCall (va_Pc [.ref (ad 0 0), .int z] (k_I g (k_ct g ad t) ad)) (va_Qv (fun _ => False) (fun u U => k_H g ad u U.heap) (k_A g)) (vx_X (fun u => u = t) (fun E u U => E = "java/lang/IllegalArgumentException" ∧ k_H g ad u U.heap) (k_A g)) 1 6 (k_A g) := by
  rcases hz with h | h
  · exact c_X4_onCall_lo l hlt g ad t z h
  · exact c_X4_onCall_hi l hlt g ad t z h
set_option maxRecDepth 100000 in
set_option maxHeartbeats 4000000 in
theorem c_X4_onCall_ok (l : Launch) (hlt : l.stackTraces = false) (g : k_g) (ad : k_AD) (t : k_T) (j : Nat) (hj : j ≤ 364) : Met l yX4_onCall wsX4_onCall rm_X4_onCall (va_Pc [.ref (ad 0 0), .int (nI j)] (k_I g (k_ct g ad t) ad)) (va_Qi (fun r u => r = nI (r_p t j) ∧ u = t) (fun u U => k_H g ad u U.heap) (k_A g)) 1 6 (k_A g) := by
  refine k_met (cc := cX4_onCall) (maxL := 2) (ret := (some .int)) (by decide) rfl (Nat.le_of_ble_eq_true rfl) (fun p e s m args below meth c Q ls hQ hx hb hr hml hts hown hlk hin hK hZ hN hW hS hl => ?_)
  have hown : s.vm.findClass RX4 = some m.cls := hown
  have hW : k_H g ad t s.heap := hW
  have hl : lv_has ls 2 [(0, .ref (ad 0 0)), (1, .int (nI j))] := hl
  have hinX4 : ∀ w ∈ wsX40, w ∈ wsX4_onCall := by decide +kernel
  refine lv_iload_n hx hb dX4_onCall_0 rfl (lv_at hl 1 rfl) ?_
  refine k_if_lt (tgt := 11) hx hb (by omega) dX4_onCall_1 (by decide) ?_
  refine lv_iload_n hx hb dX4_onCall_4 rfl (lv_at hl 1 rfl) ?_
  refine lv_sipush (v := nI 364) hx hb dX4_onCall_5 (by decide) ?_
  refine k_icmp_le (tgt := 21) hx hb (a := j) (b := 364) (by omega) (by decide) dX4_onCall_8 (by decide) (fun h_8 => ?_) (fun h_8 => absurd h_8 (by omega))
  refine lv_aload_n hx hb dX4_onCall_21 rfl (lv_at hl 0 rfl) ?_
  refine k_get (own := RX4) (C := RX4) (T := TX4) (N := 4) hx hb hts hinX4 hown hK hW (kc_0 g ad t) rfl 2 (by decide) (hts (.fieldLink RX4 26 "DrillVault" "rota" "LDrillVault$Rota;") (by decide +kernel)) rfl (v := .ref (ad 7 0)) rfl dX4_onCall_22 ?_
  refine lv_iload_n hx hb dX4_onCall_25 rfl (lv_at hl 1 rfl) ?_
  refine k_ci (va_runV (As := [.int (nI j)]) (rest := []) ⟨hx, hb, hml, hown, hts⟩ (c_X2_personOn l hlt g ad t j (by omega)) (cwV 1 hts gX4_onCall_X2_personOn rfl rfl rfl (by decide +kernel) ⟨(Nat.le_of_ble_eq_true rfl), (Nat.le_of_ble_eq_true rfl)⟩) ⟨k_blind, k_recv hK hW (kc_7 g ad t) rfl, fun U hU hw => ⟨rfl, k_I.of hK hZ hN hS hW hU hw⟩⟩ rfl rfl hl.1 rfl (lv_room (Nat.le_of_ble_eq_true rfl)) dX4_onCall_26 ⟨(Nat.le_of_ble_eq_true rfl), (Nat.le_of_ble_eq_true rfl)⟩) hS (fun r u H locs hpo hW hS => ?_)
  obtain ⟨hr9, hu9⟩ := hpo; replace hu9 := hu9.symm; subst hu9; replace hr9 := hr9.symm; subst hr9
  exact k_ri hQ hx hb hr hlk hS hW ⟨rfl, rfl⟩ (Nat.le_of_ble_eq_true rfl) (Nat.le_of_ble_eq_true rfl) dX4_onCall_29
abbrev rm_X4_alarm : Room := { frames := 6, cells := 1, slots := 6, locals := 90 }
set_option maxRecDepth 100000 in
set_option maxHeartbeats 4000000 in
theorem c_X4_alarm_lo (l : Launch) (hlt : l.stackTraces = false) (g : k_g) (ad : k_AD) (t : k_T) (z : Int32) (hz : z < 0) : vx_Met l yX4_alarm wsX4_alarm rm_X4_alarm (va_Pc [.ref (ad 0 0), .int z] (k_I g (k_ct g ad t) ad)) (va_Qv (fun _ => False) (fun u U => k_H g ad u U.heap) (k_A g)) (vx_X (fun u => u = t) (fun E u U => E = "java/lang/IllegalArgumentException" ∧ k_H g ad u U.heap) (k_A g)) 1 6 (k_A g) := by
  refine k_metX (cc := cX4_alarm) (maxL := 2) (ret := (some .int)) (by decide) rfl (Nat.le_of_ble_eq_true rfl) (fun p e s m args below meth c Q ls hQ hx hb hr hml hts hown hlk hin hout hK hZ hN hW hS hl => ?_)
  have hown : s.vm.findClass RX4 = some m.cls := hown
  have hW : k_H g ad t s.heap := hW
  have hl : lv_has ls 2 [(0, .ref (ad 0 0)), (1, .int z)] := hl
  have hatIA : ∀ w ∈ (vx_atS RX4 42 "java/lang/IllegalArgumentException" ["java/lang/RuntimeException", "java/lang/Exception"]).filter goodWord, w ∈ wsX4_alarm := by decide +kernel
  refine lv_iload_n hx hb dX4_alarm_0 rfl (lv_at hl 1 rfl) ?_
  refine lv_if_lt (tgt := 10) hx hb dX4_alarm_1 (by decide) (fun h_1 => ?_) (fun h_1 => absurd h_1 (fun q => q hz))
  exact k_throw (text := "answering is out of range") hQ hout hx hb hlt hml hlk hown hts (by decide) (by decide +kernel) (by decide +kernel) hatIA k_badIA k_goodIA_38 (by decide +kernel) (by decide +kernel) hK hZ hS hW hl rfl dX4_alarm_10 dX4_alarm_13 dX4_alarm_14 dX4_alarm_16 dX4_alarm_19 (Nat.le_of_ble_eq_true rfl) (Nat.le_of_ble_eq_true rfl) (Nat.le_of_ble_eq_true rfl) (Nat.le_of_ble_eq_true rfl) (Nat.le_of_ble_eq_true rfl) (Nat.le_of_ble_eq_true rfl)
set_option maxRecDepth 100000 in
set_option maxHeartbeats 4000000 in
theorem c_X4_alarm_hi (l : Launch) (hlt : l.stackTraces = false) (g : k_g) (ad : k_AD) (t : k_T) (z : Int32) (hz : nI 31 < z) : vx_Met l yX4_alarm wsX4_alarm rm_X4_alarm (va_Pc [.ref (ad 0 0), .int z] (k_I g (k_ct g ad t) ad)) (va_Qv (fun _ => False) (fun u U => k_H g ad u U.heap) (k_A g)) (vx_X (fun u => u = t) (fun E u U => E = "java/lang/IllegalArgumentException" ∧ k_H g ad u U.heap) (k_A g)) 1 6 (k_A g) := by
  refine k_metX (cc := cX4_alarm) (maxL := 2) (ret := (some .int)) (by decide) rfl (Nat.le_of_ble_eq_true rfl) (fun p e s m args below meth c Q ls hQ hx hb hr hml hts hown hlk hin hout hK hZ hN hW hS hl => ?_)
  have hown : s.vm.findClass RX4 = some m.cls := hown
  have hW : k_H g ad t s.heap := hW
  have hl : lv_has ls 2 [(0, .ref (ad 0 0)), (1, .int z)] := hl
  have hatIA : ∀ w ∈ (vx_atS RX4 42 "java/lang/IllegalArgumentException" ["java/lang/RuntimeException", "java/lang/Exception"]).filter goodWord, w ∈ wsX4_alarm := by decide +kernel
  refine lv_iload_n hx hb dX4_alarm_0 rfl (lv_at hl 1 rfl) ?_
  refine lv_if_lt (tgt := 10) hx hb dX4_alarm_1 (by decide) (fun h_1 => absurd h_1 (k_gt_nneg hz (by decide))) (fun h_1 => ?_)
  refine lv_iload_n hx hb dX4_alarm_4 rfl (lv_at hl 1 rfl) ?_
  refine lv_bipush (v := nI 31) hx hb dX4_alarm_5 (by decide) ?_
  refine lv_icmp_le (tgt := 20) hx hb dX4_alarm_7 (by decide) (fun h_7 => absurd h_7 (Int32.not_le.mpr hz)) (fun h_7 => ?_)
  exact k_throw (text := "answering is out of range") hQ hout hx hb hlt hml hlk hown hts (by decide) (by decide +kernel) (by decide +kernel) hatIA k_badIA k_goodIA_38 (by decide +kernel) (by decide +kernel) hK hZ hS hW hl rfl dX4_alarm_10 dX4_alarm_13 dX4_alarm_14 dX4_alarm_16 dX4_alarm_19 (Nat.le_of_ble_eq_true rfl) (Nat.le_of_ble_eq_true rfl) (Nat.le_of_ble_eq_true rfl) (Nat.le_of_ble_eq_true rfl) (Nat.le_of_ble_eq_true rfl) (Nat.le_of_ble_eq_true rfl)
set_option maxRecDepth 100000 in
set_option maxHeartbeats 4000000 in
theorem c_X4_alarm_b (l : Launch) (hlt : l.stackTraces = false) (g : k_g) (ad : k_AD) (t : k_T) (z : Int32) (hz : z < 0 ∨ nI 31 < z) : vx_Met l yX4_alarm wsX4_alarm rm_X4_alarm (va_Pc [.ref (ad 0 0), .int z] (k_I g (k_ct g ad t) ad)) (va_Qv (fun _ => False) (fun u U => k_H g ad u U.heap) (k_A g)) (vx_X (fun u => u = t) (fun E u U => E = "java/lang/IllegalArgumentException" ∧ k_H g ad u U.heap) (k_A g)) 1 6 (k_A g) := by
  rcases hz with h | h
  · exact c_X4_alarm_lo l hlt g ad t z h
  · exact c_X4_alarm_hi l hlt g ad t z h
set_option maxRecDepth 100000 in
set_option maxHeartbeats 4000000 in
theorem c_X4_alarm_ok (l : Launch) (hlt : l.stackTraces = false) (g : k_g) (ad : k_AD) (t : k_T) (an : Nat) (han : an ≤ 31) (hd : x_d t ≤ 360) (hp : ∀ i, i < 365 → r_p t i < 5) : Met l yX4_alarm wsX4_alarm rm_X4_alarm (va_Pc [.ref (ad 0 0), .int (nI an)] (k_I g (k_ct g ad t) ad)) (va_Qi (fun r u => r = k_al (r_p t) an 4 (x_d t) ∧ u = t) (fun u U => k_H g ad u U.heap) (k_A g)) 1 6 (k_A g) := by
  refine k_met (cc := cX4_alarm) (maxL := 2) (ret := (some .int)) (by decide) rfl (Nat.le_of_ble_eq_true rfl) (fun p e s m args below meth c Q ls hQ hx hb hr hml hts hown hlk hin hK hZ hN hW hS hl => ?_)
  have hown : s.vm.findClass RX4 = some m.cls := hown
  have hW : k_H g ad t s.heap := hW
  have hl : lv_has ls 2 [(0, .ref (ad 0 0)), (1, .int (nI an))] := hl
  have hinX4 : ∀ w ∈ wsX40, w ∈ wsX4_alarm := by decide +kernel
  refine lv_iload_n hx hb dX4_alarm_0 rfl (lv_at hl 1 rfl) ?_
  refine k_if_lt (tgt := 10) hx hb (by omega) dX4_alarm_1 (by decide) ?_
  refine lv_iload_n hx hb dX4_alarm_4 rfl (lv_at hl 1 rfl) ?_
  refine lv_bipush (v := nI 31) hx hb dX4_alarm_5 (by decide) ?_
  refine k_icmp_le (tgt := 20) hx hb (a := an) (b := 31) (by omega) (by decide) dX4_alarm_7 (by decide) (fun h_7 => ?_) (fun h_7 => absurd h_7 (by omega))
  refine lv_aload_n hx hb dX4_alarm_20 rfl (lv_at hl 0 rfl) ?_
  refine k_get (own := RX4) (C := RX4) (T := TX4) (N := 4) hx hb hts hinX4 hown hK hW (kc_0 g ad t) rfl 2 (by decide) (hts (.fieldLink RX4 26 "DrillVault" "rota" "LDrillVault$Rota;") (by decide +kernel)) rfl (v := .ref (ad 7 0)) rfl dX4_alarm_21 ?_
  refine lv_aload_n hx hb dX4_alarm_24 rfl (lv_at hl 0 rfl) ?_
  refine k_get (own := RX4) (C := RX4) (T := TX4) (N := 4) hx hb hts hinX4 hown hK hW (kc_0 g ad t) rfl 3 (by decide) (hts (.fieldLink RX4 30 "DrillVault" "today" "I") (by decide +kernel)) rfl (v := .int (nI (x_d t))) rfl dX4_alarm_25 ?_
  refine lv_iload_n hx hb dX4_alarm_28 rfl (lv_at hl 1 rfl) ?_
  refine k_ci (va_runV (As := [.int (nI (x_d t)), .int (nI an)]) (rest := []) ⟨hx, hb, hml, hown, hts⟩ (c_X2_firstToAnswer l hlt g ad t (x_d t) an hd (by omega) hp) (cwV 2 hts gX4_alarm_X2_firstToAnswer rfl rfl rfl (by decide +kernel) ⟨(Nat.le_of_ble_eq_true rfl), (Nat.le_of_ble_eq_true rfl)⟩) ⟨k_blind, k_recv hK hW (kc_7 g ad t) rfl, fun U hU hw => ⟨rfl, k_I.of hK hZ hN hS hW hU hw⟩⟩ rfl rfl hl.1 rfl (lv_room (Nat.le_of_ble_eq_true rfl)) dX4_alarm_29 ⟨(Nat.le_of_ble_eq_true rfl), (Nat.le_of_ble_eq_true rfl)⟩) hS (fun r u H locs hpo hW hS => ?_)
  obtain ⟨hr9, hu9⟩ := hpo; replace hu9 := hu9.symm; subst hu9; replace hr9 := hr9.symm; subst hr9
  exact k_ri hQ hx hb hr hlk hS hW ⟨rfl, rfl⟩ (Nat.le_of_ble_eq_true rfl) (Nat.le_of_ble_eq_true rfl) dX4_alarm_32
abbrev rm_X4_isOpenForSwaps : Room := { frames := 0, cells := 0, slots := 0, locals := 0 }
set_option maxRecDepth 100000 in
set_option maxHeartbeats 4000000 in
theorem c_X4_isOpenForSwaps (l : Launch) (hlt : l.stackTraces = false) (g : k_g) (ad : k_AD) (t : k_T) (j : Nat) (hd : x_d t ≤ 360) (h1 : x_d t ≤ j) (h2 : j ≤ 364) : Met l yX4_isOpenForSwaps wsX4_isOpenForSwaps rm_X4_isOpenForSwaps (va_Pc [.ref (ad 0 0), .int (nI j)] (k_I g (k_ct g ad t) ad)) (va_Qi (fun r u => r = nI 1 ∧ u = t) (fun u U => k_H g ad u U.heap) (k_A g)) 0 0 (k_A g) := by
  refine k_met (cc := cX4_isOpenForSwaps) (maxL := 2) (ret := (some .boolean)) (by decide) rfl (Nat.le_of_ble_eq_true rfl) (fun p e s m args below meth c Q ls hQ hx hb hr hml hts hown hlk hin hK hZ hN hW hS hl => ?_)
  have hown : s.vm.findClass RX4 = some m.cls := hown
  have hW : k_H g ad t s.heap := hW
  have hl : lv_has ls 2 [(0, .ref (ad 0 0)), (1, .int (nI j))] := hl
  have hinX4 : ∀ w ∈ wsX40, w ∈ wsX4_isOpenForSwaps := by decide +kernel
  refine lv_iload_n hx hb dX4_isOpenForSwaps_0 rfl (lv_at hl 1 rfl) ?_
  refine lv_aload_n hx hb dX4_isOpenForSwaps_1 rfl (lv_at hl 0 rfl) ?_
  refine k_get (own := RX4) (C := RX4) (T := TX4) (N := 4) hx hb hts hinX4 hown hK hW (kc_0 g ad t) rfl 3 (by decide) (hts (.fieldLink RX4 30 "DrillVault" "today" "I") (by decide +kernel)) rfl (v := .int (nI (x_d t))) rfl dX4_isOpenForSwaps_2 ?_
  refine k_icmp_lt (tgt := 19) hx hb (a := j) (b := x_d t) (by omega) (by omega) dX4_isOpenForSwaps_5 (by decide) (fun h_5 => absurd h_5 (by omega)) (fun h_5 => ?_)
  refine lv_iload_n hx hb dX4_isOpenForSwaps_8 rfl (lv_at hl 1 rfl) ?_
  refine lv_sipush (v := nI 364) hx hb dX4_isOpenForSwaps_9 (by decide) ?_
  refine k_icmp_gt (tgt := 19) hx hb (a := j) (b := 364) (by omega) (by decide) dX4_isOpenForSwaps_12 (by decide) (fun h_12 => absurd h_12 (by omega)) (fun h_12 => ?_)
  refine lv_iconst (v := nI 1) hx hb dX4_isOpenForSwaps_15 (by decide) ?_
  refine lv_goto (tgt := 20) hx hb dX4_isOpenForSwaps_16 (by decide) ?_
  exact k_rz hQ hx hb hr rfl hlk hS hW ⟨rfl, rfl⟩ (Nat.le_of_ble_eq_true rfl) (Nat.le_of_ble_eq_true rfl) dX4_isOpenForSwaps_20
set_option maxRecDepth 100000 in
set_option maxHeartbeats 4000000 in
theorem c_X4_isOpenForSwaps_lo (l : Launch) (hlt : l.stackTraces = false) (g : k_g) (ad : k_AD) (t : k_T) (z : Int32) (hz : z < nI (x_d t)) : Met l yX4_isOpenForSwaps wsX4_isOpenForSwaps rm_X4_isOpenForSwaps (va_Pc [.ref (ad 0 0), .int z] (k_I g (k_ct g ad t) ad)) (va_Qi (fun r u => r = nI 0 ∧ u = t) (fun u U => k_H g ad u U.heap) (k_A g)) 0 0 (k_A g) := by
  refine k_met (cc := cX4_isOpenForSwaps) (maxL := 2) (ret := (some .boolean)) (by decide) rfl (Nat.le_of_ble_eq_true rfl) (fun p e s m args below meth c Q ls hQ hx hb hr hml hts hown hlk hin hK hZ hN hW hS hl => ?_)
  have hown : s.vm.findClass RX4 = some m.cls := hown
  have hW : k_H g ad t s.heap := hW
  have hl : lv_has ls 2 [(0, .ref (ad 0 0)), (1, .int z)] := hl
  have hinX4 : ∀ w ∈ wsX40, w ∈ wsX4_isOpenForSwaps := by decide +kernel
  refine lv_iload_n hx hb dX4_isOpenForSwaps_0 rfl (lv_at hl 1 rfl) ?_
  refine lv_aload_n hx hb dX4_isOpenForSwaps_1 rfl (lv_at hl 0 rfl) ?_
  refine k_get (own := RX4) (C := RX4) (T := TX4) (N := 4) hx hb hts hinX4 hown hK hW (kc_0 g ad t) rfl 3 (by decide) (hts (.fieldLink RX4 30 "DrillVault" "today" "I") (by decide +kernel)) rfl (v := .int (nI (x_d t))) rfl dX4_isOpenForSwaps_2 ?_
  refine lv_icmp_lt (tgt := 19) hx hb dX4_isOpenForSwaps_5 (by decide) (fun h_5 => ?_) (fun h_5 => absurd h_5 (fun q => q hz))
  refine lv_iconst (v := nI 0) hx hb dX4_isOpenForSwaps_19 (by decide) ?_
  exact k_rz hQ hx hb hr rfl hlk hS hW ⟨rfl, rfl⟩ (Nat.le_of_ble_eq_true rfl) (Nat.le_of_ble_eq_true rfl) dX4_isOpenForSwaps_20
set_option maxRecDepth 100000 in
set_option maxHeartbeats 4000000 in
theorem c_X4_isOpenForSwaps_hi (l : Launch) (hlt : l.stackTraces = false) (g : k_g) (ad : k_AD) (t : k_T) (z : Int32) (hd : x_d t ≤ 360) (hz : nI 364 < z) : Met l yX4_isOpenForSwaps wsX4_isOpenForSwaps rm_X4_isOpenForSwaps (va_Pc [.ref (ad 0 0), .int z] (k_I g (k_ct g ad t) ad)) (va_Qi (fun r u => r = nI 0 ∧ u = t) (fun u U => k_H g ad u U.heap) (k_A g)) 0 0 (k_A g) := by
  refine k_met (cc := cX4_isOpenForSwaps) (maxL := 2) (ret := (some .boolean)) (by decide) rfl (Nat.le_of_ble_eq_true rfl) (fun p e s m args below meth c Q ls hQ hx hb hr hml hts hown hlk hin hK hZ hN hW hS hl => ?_)
  have hown : s.vm.findClass RX4 = some m.cls := hown
  have hW : k_H g ad t s.heap := hW
  have hl : lv_has ls 2 [(0, .ref (ad 0 0)), (1, .int z)] := hl
  have hinX4 : ∀ w ∈ wsX40, w ∈ wsX4_isOpenForSwaps := by decide +kernel
  refine lv_iload_n hx hb dX4_isOpenForSwaps_0 rfl (lv_at hl 1 rfl) ?_
  refine lv_aload_n hx hb dX4_isOpenForSwaps_1 rfl (lv_at hl 0 rfl) ?_
  refine k_get (own := RX4) (C := RX4) (T := TX4) (N := 4) hx hb hts hinX4 hown hK hW (kc_0 g ad t) rfl 3 (by decide) (hts (.fieldLink RX4 30 "DrillVault" "today" "I") (by decide +kernel)) rfl (v := .int (nI (x_d t))) rfl dX4_isOpenForSwaps_2 ?_
  refine lv_icmp_lt (tgt := 19) hx hb dX4_isOpenForSwaps_5 (by decide) (fun h_5 => absurd h_5 (Int32.not_lt.mpr (k_gt_ge hz (by decide) (by omega)))) (fun h_5 => ?_)
  refine lv_iload_n hx hb dX4_isOpenForSwaps_8 rfl (lv_at hl 1 rfl) ?_
  refine lv_sipush (v := nI 364) hx hb dX4_isOpenForSwaps_9 (by decide) ?_
  refine lv_icmp_gt (tgt := 19) hx hb dX4_isOpenForSwaps_12 (by decide) (fun h_12 => ?_) (fun h_12 => absurd h_12 (fun q => q hz))
  refine lv_iconst (v := nI 0) hx hb dX4_isOpenForSwaps_19 (by decide) ?_
  exact k_rz hQ hx hb hr rfl hlk hS hW ⟨rfl, rfl⟩ (Nat.le_of_ble_eq_true rfl) (Nat.le_of_ble_eq_true rfl) dX4_isOpenForSwaps_20
set_option maxRecDepth 100000 in
set_option maxHeartbeats 4000000 in
theorem c_X4_isOpenForSwaps_no (l : Launch) (hlt : l.stackTraces = false) (g : k_g) (ad : k_AD) (t : k_T) (z : Int32) (hd : x_d t ≤ 360) (hz : z < nI (x_d t) ∨ nI 364 < z) : Met l yX4_isOpenForSwaps wsX4_isOpenForSwaps rm_X4_isOpenForSwaps (va_Pc [.ref (ad 0 0), .int z] (k_I g (k_ct g ad t) ad)) (va_Qi (fun r u => r = nI 0 ∧ u = t) (fun u U => k_H g ad u U.heap) (k_A g)) 0 0 (k_A g) := by
  rcases hz with h | h
  · exact c_X4_isOpenForSwaps_lo l hlt g ad t z h
  · exact c_X4_isOpenForSwaps_hi l hlt g ad t z hd h
abbrev rm_X4_swap : Room := { frames := 6, cells := 2, slots := 12, locals := 90 }
set_option maxRecDepth 100000 in
set_option maxHeartbeats 4000000 in
theorem c_X4_swap_b1 (l : Launch) (hlt : l.stackTraces = false) (g : k_g) (ad : k_AD) (t : k_T) (z : Int32) (y : Int32) (hd : x_d t ≤ 360) (hz : z < nI (x_d t) ∨ nI 364 < z) : vx_Met l yX4_swap wsX4_swap rm_X4_swap (va_Pc [.ref (ad 0 0), .int z, .int y] (k_I g (k_ct g ad t) ad)) (va_Qv (fun _ => False) (fun u U => k_H g ad u U.heap) (k_A g)) (vx_X (fun u => u = t) (fun E u U => E = "java/lang/IllegalArgumentException" ∧ k_H g ad u U.heap) (k_A g)) 2 12 (k_A g) := by
  refine k_metX (cc := cX4_swap) (maxL := 3) (ret := (some .int)) (by decide) rfl (Nat.le_of_ble_eq_true rfl) (fun p e s m args below meth c Q ls hQ hx hb hr hml hts hown hlk hin hout hK hZ hN hW hS hl => ?_)
  have hown : s.vm.findClass RX4 = some m.cls := hown
  have hW : k_H g ad t s.heap := hW
  have hl : lv_has ls 3 [(0, .ref (ad 0 0)), (1, .int z), (2, .int y)] := hl
  have hatIA : ∀ w ∈ (vx_atS RX4 42 "java/lang/IllegalArgumentException" ["java/lang/RuntimeException", "java/lang/Exception"]).filter goodWord, w ∈ wsX4_swap := by decide +kernel
  refine lv_aload_n hx hb dX4_swap_0 rfl (lv_at hl 0 rfl) ?_
  refine lv_iload_n hx hb dX4_swap_1 rfl (lv_at hl 1 rfl) ?_
  refine k_ci (va_runV (As := [.int z]) (rest := []) ⟨hx, hb, hml, hown, hts⟩ (c_X4_isOpenForSwaps_no l hlt g ad t z hd hz) (cwV 1 hts gX4_swap_X4_isOpenForSwaps rfl rfl rfl (by decide +kernel) ⟨(Nat.le_of_ble_eq_true rfl), (Nat.le_of_ble_eq_true rfl)⟩) ⟨k_blind, k_recv hK hW (kc_0 g ad t) rfl, fun U hU hw => ⟨rfl, k_I.of hK hZ hN hS hW hU hw⟩⟩ rfl rfl hl.1 rfl (lv_room (Nat.le_of_ble_eq_true rfl)) dX4_swap_2 ⟨(Nat.le_of_ble_eq_true rfl), (Nat.le_of_ble_eq_true rfl)⟩) hS (fun r u H locs hpo hW hS => ?_)
  obtain ⟨hr9, hu9⟩ := hpo; replace hu9 := hu9.symm; subst hu9; replace hr9 := hr9.symm; subst hr9
  refine lv_if_eq (tgt := 21) hx hb dX4_swap_5 (by decide) (fun h_5 => ?_) (fun h_5 => absurd h_5 (by decide))
  exact k_throw (text := "day or other is out of range, or both are the same") hQ hout hx hb hlt hml hlk hown hts (by decide) (by decide +kernel) (by decide +kernel) hatIA k_badIA k_goodIA_38 (by decide +kernel) (by decide +kernel) hK hZ hS hW hl rfl dX4_swap_21 dX4_swap_24 dX4_swap_25 dX4_swap_27 dX4_swap_30 (Nat.le_of_ble_eq_true rfl) (Nat.le_of_ble_eq_true rfl) (Nat.le_of_ble_eq_true rfl) (Nat.le_of_ble_eq_true rfl) (Nat.le_of_ble_eq_true rfl) (Nat.le_of_ble_eq_true rfl)
set_option maxRecDepth 100000 in
set_option maxHeartbeats 4000000 in
theorem c_X4_swap_b2 (l : Launch) (hlt : l.stackTraces = false) (g : k_g) (ad : k_AD) (t : k_T) (j : Nat) (z : Int32) (hd : x_d t ≤ 360) (h1 : x_d t ≤ j) (h2 : j ≤ 364) (hz : z < nI (x_d t) ∨ nI 364 < z) : vx_Met l yX4_swap wsX4_swap rm_X4_swap (va_Pc [.ref (ad 0 0), .int (nI j), .int z] (k_I g (k_ct g ad t) ad)) (va_Qv (fun _ => False) (fun u U => k_H g ad u U.heap) (k_A g)) (vx_X (fun u => u = t) (fun E u U => E = "java/lang/IllegalArgumentException" ∧ k_H g ad u U.heap) (k_A g)) 2 12 (k_A g) := by
  refine k_metX (cc := cX4_swap) (maxL := 3) (ret := (some .int)) (by decide) rfl (Nat.le_of_ble_eq_true rfl) (fun p e s m args below meth c Q ls hQ hx hb hr hml hts hown hlk hin hout hK hZ hN hW hS hl => ?_)
  have hown : s.vm.findClass RX4 = some m.cls := hown
  have hW : k_H g ad t s.heap := hW
  have hl : lv_has ls 3 [(0, .ref (ad 0 0)), (1, .int (nI j)), (2, .int z)] := hl
  have hatIA : ∀ w ∈ (vx_atS RX4 42 "java/lang/IllegalArgumentException" ["java/lang/RuntimeException", "java/lang/Exception"]).filter goodWord, w ∈ wsX4_swap := by decide +kernel
  refine lv_aload_n hx hb dX4_swap_0 rfl (lv_at hl 0 rfl) ?_
  refine lv_iload_n hx hb dX4_swap_1 rfl (lv_at hl 1 rfl) ?_
  refine k_ci (va_runV (As := [.int (nI j)]) (rest := []) ⟨hx, hb, hml, hown, hts⟩ (c_X4_isOpenForSwaps l hlt g ad t j hd h1 h2) (cwV 1 hts gX4_swap_X4_isOpenForSwaps rfl rfl rfl (by decide +kernel) ⟨(Nat.le_of_ble_eq_true rfl), (Nat.le_of_ble_eq_true rfl)⟩) ⟨k_blind, k_recv hK hW (kc_0 g ad t) rfl, fun U hU hw => ⟨rfl, k_I.of hK hZ hN hS hW hU hw⟩⟩ rfl rfl hl.1 rfl (lv_room (Nat.le_of_ble_eq_true rfl)) dX4_swap_2 ⟨(Nat.le_of_ble_eq_true rfl), (Nat.le_of_ble_eq_true rfl)⟩) hS (fun r u H locs hpo hW hS => ?_)
  obtain ⟨hr9, hu9⟩ := hpo; replace hu9 := hu9.symm; subst hu9; replace hr9 := hr9.symm; subst hr9
  refine lv_if_eq (tgt := 21) hx hb dX4_swap_5 (by decide) (fun h_5 => absurd h_5 (by decide)) (fun h_5 => ?_)
  refine lv_aload_n hx hb dX4_swap_8 rfl (lv_at hl 0 rfl) ?_
  refine lv_iload_n hx hb dX4_swap_9 rfl (lv_at hl 2 rfl) ?_
  refine k_ci (va_runV (As := [.int z]) (rest := []) ⟨hx, hb, hml, hown, hts⟩ (c_X4_isOpenForSwaps_no l hlt g ad t z hd hz) (cwV 1 hts gX4_swap_X4_isOpenForSwaps rfl rfl rfl (by decide +kernel) ⟨(Nat.le_of_ble_eq_true rfl), (Nat.le_of_ble_eq_true rfl)⟩) ⟨k_blind, k_recv hK hW (kc_0 g ad t) rfl, fun U hU hw => ⟨rfl, k_I.of hK hZ hN hS hW hU hw⟩⟩ rfl rfl hl.1 rfl (lv_room (Nat.le_of_ble_eq_true rfl)) dX4_swap_10 ⟨(Nat.le_of_ble_eq_true rfl), (Nat.le_of_ble_eq_true rfl)⟩) hS (fun r u H locs hpo hW hS => ?_)
  obtain ⟨hr9, hu9⟩ := hpo; replace hu9 := hu9.symm; subst hu9; replace hr9 := hr9.symm; subst hr9
  refine lv_if_eq (tgt := 21) hx hb dX4_swap_13 (by decide) (fun h_13 => ?_) (fun h_13 => absurd h_13 (by decide))
  exact k_throw (text := "day or other is out of range, or both are the same") hQ hout hx hb hlt hml hlk hown hts (by decide) (by decide +kernel) (by decide +kernel) hatIA k_badIA k_goodIA_38 (by decide +kernel) (by decide +kernel) hK hZ hS hW hl rfl dX4_swap_21 dX4_swap_24 dX4_swap_25 dX4_swap_27 dX4_swap_30 (Nat.le_of_ble_eq_true rfl) (Nat.le_of_ble_eq_true rfl) (Nat.le_of_ble_eq_true rfl) (Nat.le_of_ble_eq_true rfl) (Nat.le_of_ble_eq_true rfl) (Nat.le_of_ble_eq_true rfl)
set_option maxRecDepth 100000 in
set_option maxHeartbeats 4000000 in
theorem c_X4_swap_b3 (l : Launch) (hlt : l.stackTraces = false) (g : k_g) (ad : k_AD) (t : k_T) (j : Nat) (hd : x_d t ≤ 360) (h1 : x_d t ≤ j) (h2 : j ≤ 364) : vx_Met l yX4_swap wsX4_swap rm_X4_swap (va_Pc [.ref (ad 0 0), .int (nI j), .int (nI j)] (k_I g (k_ct g ad t) ad)) (va_Qv (fun _ => False) (fun u U => k_H g ad u U.heap) (k_A g)) (vx_X (fun u => u = t) (fun E u U => E = "java/lang/IllegalArgumentException" ∧ k_H g ad u U.heap) (k_A g)) 2 12 (k_A g) := by
  refine k_metX (cc := cX4_swap) (maxL := 3) (ret := (some .int)) (by decide) rfl (Nat.le_of_ble_eq_true rfl) (fun p e s m args below meth c Q ls hQ hx hb hr hml hts hown hlk hin hout hK hZ hN hW hS hl => ?_)
  have hown : s.vm.findClass RX4 = some m.cls := hown
  have hW : k_H g ad t s.heap := hW
  have hl : lv_has ls 3 [(0, .ref (ad 0 0)), (1, .int (nI j)), (2, .int (nI j))] := hl
  have hatIA : ∀ w ∈ (vx_atS RX4 42 "java/lang/IllegalArgumentException" ["java/lang/RuntimeException", "java/lang/Exception"]).filter goodWord, w ∈ wsX4_swap := by decide +kernel
  refine lv_aload_n hx hb dX4_swap_0 rfl (lv_at hl 0 rfl) ?_
  refine lv_iload_n hx hb dX4_swap_1 rfl (lv_at hl 1 rfl) ?_
  refine k_ci (va_runV (As := [.int (nI j)]) (rest := []) ⟨hx, hb, hml, hown, hts⟩ (c_X4_isOpenForSwaps l hlt g ad t j hd h1 h2) (cwV 1 hts gX4_swap_X4_isOpenForSwaps rfl rfl rfl (by decide +kernel) ⟨(Nat.le_of_ble_eq_true rfl), (Nat.le_of_ble_eq_true rfl)⟩) ⟨k_blind, k_recv hK hW (kc_0 g ad t) rfl, fun U hU hw => ⟨rfl, k_I.of hK hZ hN hS hW hU hw⟩⟩ rfl rfl hl.1 rfl (lv_room (Nat.le_of_ble_eq_true rfl)) dX4_swap_2 ⟨(Nat.le_of_ble_eq_true rfl), (Nat.le_of_ble_eq_true rfl)⟩) hS (fun r u H locs hpo hW hS => ?_)
  obtain ⟨hr9, hu9⟩ := hpo; replace hu9 := hu9.symm; subst hu9; replace hr9 := hr9.symm; subst hr9
  refine lv_if_eq (tgt := 21) hx hb dX4_swap_5 (by decide) (fun h_5 => absurd h_5 (by decide)) (fun h_5 => ?_)
  refine lv_aload_n hx hb dX4_swap_8 rfl (lv_at hl 0 rfl) ?_
  refine lv_iload_n hx hb dX4_swap_9 rfl (lv_at hl 2 rfl) ?_
  refine k_ci (va_runV (As := [.int (nI j)]) (rest := []) ⟨hx, hb, hml, hown, hts⟩ (c_X4_isOpenForSwaps l hlt g ad t j hd h1 h2) (cwV 1 hts gX4_swap_X4_isOpenForSwaps rfl rfl rfl (by decide +kernel) ⟨(Nat.le_of_ble_eq_true rfl), (Nat.le_of_ble_eq_true rfl)⟩) ⟨k_blind, k_recv hK hW (kc_0 g ad t) rfl, fun U hU hw => ⟨rfl, k_I.of hK hZ hN hS hW hU hw⟩⟩ rfl rfl hl.1 rfl (lv_room (Nat.le_of_ble_eq_true rfl)) dX4_swap_10 ⟨(Nat.le_of_ble_eq_true rfl), (Nat.le_of_ble_eq_true rfl)⟩) hS (fun r u H locs hpo hW hS => ?_)
  obtain ⟨hr9, hu9⟩ := hpo; replace hu9 := hu9.symm; subst hu9; replace hr9 := hr9.symm; subst hr9
  refine lv_if_eq (tgt := 21) hx hb dX4_swap_13 (by decide) (fun h_13 => absurd h_13 (by decide)) (fun h_13 => ?_)
  refine lv_iload_n hx hb dX4_swap_16 rfl (lv_at hl 1 rfl) ?_
  refine lv_iload_n hx hb dX4_swap_17 rfl (lv_at hl 2 rfl) ?_
  refine k_icmp_ne (tgt := 31) hx hb (a := j) (b := j) (by omega) (by omega) dX4_swap_18 (by decide) (fun h_18 => absurd h_18 (by omega)) (fun h_18 => ?_)
  exact k_throw (text := "day or other is out of range, or both are the same") hQ hout hx hb hlt hml hlk hown hts (by decide) (by decide +kernel) (by decide +kernel) hatIA k_badIA k_goodIA_38 (by decide +kernel) (by decide +kernel) hK hZ hS hW hl rfl dX4_swap_21 dX4_swap_24 dX4_swap_25 dX4_swap_27 dX4_swap_30 (Nat.le_of_ble_eq_true rfl) (Nat.le_of_ble_eq_true rfl) (Nat.le_of_ble_eq_true rfl) (Nat.le_of_ble_eq_true rfl) (Nat.le_of_ble_eq_true rfl) (Nat.le_of_ble_eq_true rfl)
set_option maxRecDepth 100000 in
set_option maxHeartbeats 4000000 in
theorem c_X4_swap_is (l : Launch) (hlt : l.stackTraces = false) (g : k_g) (ad : k_AD) (t : k_T) (j : Nat) (k : Nat) (hd : x_d t ≤ 360) (h1 : x_d t ≤ j) (h2 : j ≤ 364) (h3 : x_d t ≤ k) (h4 : k ≤ 364) (hne : j ≠ k) (hp : ∀ i, i < 365 → r_p t i < 5) (hno : (k_rest (k_ex (r_p t) j k) j && k_rest (k_ex (r_p t) j k) k) = false) : vx_Met l yX4_swap wsX4_swap rm_X4_swap (va_Pc [.ref (ad 0 0), .int (nI j), .int (nI k)] (k_I g (k_ct g ad t) ad)) (va_Qv (fun _ => False) (fun u U => k_H g ad u U.heap) (k_A g)) (vx_X (fun u => u = t) (fun E u U => E = "java/lang/IllegalStateException" ∧ k_H g ad u U.heap) (k_A g)) 2 12 (k_A g) := by
  refine k_metX (cc := cX4_swap) (maxL := 3) (ret := (some .int)) (by decide) rfl (Nat.le_of_ble_eq_true rfl) (fun p e s m args below meth c Q ls hQ hx hb hr hml hts hown hlk hin hout hK hZ hN hW hS hl => ?_)
  have hown : s.vm.findClass RX4 = some m.cls := hown
  have hW : k_H g ad t s.heap := hW
  have hl : lv_has ls 3 [(0, .ref (ad 0 0)), (1, .int (nI j)), (2, .int (nI k))] := hl
  have hinX4 : ∀ w ∈ wsX40, w ∈ wsX4_swap := by decide +kernel
  have hatIS : ∀ w ∈ (vx_atS RX4 52 "java/lang/IllegalStateException" ["java/lang/RuntimeException", "java/lang/Exception"]).filter goodWord, w ∈ wsX4_swap := by decide +kernel
  refine lv_aload_n hx hb dX4_swap_0 rfl (lv_at hl 0 rfl) ?_
  refine lv_iload_n hx hb dX4_swap_1 rfl (lv_at hl 1 rfl) ?_
  refine k_ci (va_runV (As := [.int (nI j)]) (rest := []) ⟨hx, hb, hml, hown, hts⟩ (c_X4_isOpenForSwaps l hlt g ad t j hd h1 h2) (cwV 1 hts gX4_swap_X4_isOpenForSwaps rfl rfl rfl (by decide +kernel) ⟨(Nat.le_of_ble_eq_true rfl), (Nat.le_of_ble_eq_true rfl)⟩) ⟨k_blind, k_recv hK hW (kc_0 g ad t) rfl, fun U hU hw => ⟨rfl, k_I.of hK hZ hN hS hW hU hw⟩⟩ rfl rfl hl.1 rfl (lv_room (Nat.le_of_ble_eq_true rfl)) dX4_swap_2 ⟨(Nat.le_of_ble_eq_true rfl), (Nat.le_of_ble_eq_true rfl)⟩) hS (fun r u H locs hpo hW hS => ?_)
  obtain ⟨hr9, hu9⟩ := hpo; replace hu9 := hu9.symm; subst hu9; replace hr9 := hr9.symm; subst hr9
  refine lv_if_eq (tgt := 21) hx hb dX4_swap_5 (by decide) (fun h_5 => absurd h_5 (by decide)) (fun h_5 => ?_)
  refine lv_aload_n hx hb dX4_swap_8 rfl (lv_at hl 0 rfl) ?_
  refine lv_iload_n hx hb dX4_swap_9 rfl (lv_at hl 2 rfl) ?_
  refine k_ci (va_runV (As := [.int (nI k)]) (rest := []) ⟨hx, hb, hml, hown, hts⟩ (c_X4_isOpenForSwaps l hlt g ad t k hd h3 h4) (cwV 1 hts gX4_swap_X4_isOpenForSwaps rfl rfl rfl (by decide +kernel) ⟨(Nat.le_of_ble_eq_true rfl), (Nat.le_of_ble_eq_true rfl)⟩) ⟨k_blind, k_recv hK hW (kc_0 g ad t) rfl, fun U hU hw => ⟨rfl, k_I.of hK hZ hN hS hW hU hw⟩⟩ rfl rfl hl.1 rfl (lv_room (Nat.le_of_ble_eq_true rfl)) dX4_swap_10 ⟨(Nat.le_of_ble_eq_true rfl), (Nat.le_of_ble_eq_true rfl)⟩) hS (fun r u H locs hpo hW hS => ?_)
  obtain ⟨hr9, hu9⟩ := hpo; replace hu9 := hu9.symm; subst hu9; replace hr9 := hr9.symm; subst hr9
  refine lv_if_eq (tgt := 21) hx hb dX4_swap_13 (by decide) (fun h_13 => absurd h_13 (by decide)) (fun h_13 => ?_)
  refine lv_iload_n hx hb dX4_swap_16 rfl (lv_at hl 1 rfl) ?_
  refine lv_iload_n hx hb dX4_swap_17 rfl (lv_at hl 2 rfl) ?_
  refine k_icmp_ne (tgt := 31) hx hb (a := j) (b := k) (by omega) (by omega) dX4_swap_18 (by decide) (fun h_18 => ?_) (fun h_18 => absurd h_18 (by omega))
  refine lv_aload_n hx hb dX4_swap_31 rfl (lv_at hl 0 rfl) ?_
  refine k_get (own := RX4) (C := RX4) (T := TX4) (N := 4) hx hb hts hinX4 hown hK hW (kc_0 g ad t) rfl 2 (by decide) (hts (.fieldLink RX4 26 "DrillVault" "rota" "LDrillVault$Rota;") (by decide +kernel)) rfl (v := .ref (ad 7 0)) rfl dX4_swap_32 ?_
  refine lv_iload_n hx hb dX4_swap_35 rfl (lv_at hl 1 rfl) ?_
  refine lv_iload_n hx hb dX4_swap_36 rfl (lv_at hl 2 rfl) ?_
  refine k_ci (va_runV (As := [.int (nI j), .int (nI k)]) (rest := []) ⟨hx, hb, hml, hown, hts⟩ (c_X2_exchangeIfRested_no l hlt g ad t j k (by omega) (by omega) hp hno) (cwV 2 hts gX4_swap_X2_exchangeIfRested rfl rfl rfl (by decide +kernel) ⟨(Nat.le_of_ble_eq_true rfl), (Nat.le_of_ble_eq_true rfl)⟩) ⟨k_blind, k_recv hK hW (kc_7 g ad t) rfl, fun U hU hw => ⟨rfl, k_I.of hK hZ hN hS hW hU hw⟩⟩ rfl rfl hl.1 rfl (lv_room (Nat.le_of_ble_eq_true rfl)) dX4_swap_37 ⟨(Nat.le_of_ble_eq_true rfl), (Nat.le_of_ble_eq_true rfl)⟩) hS (fun r u H locs hpo hW hS => ?_)
  obtain ⟨hr9, hu9⟩ := hpo; replace hu9 := hu9.symm; subst hu9; replace hr9 := hr9.symm; subst hr9
  refine lv_if_ne (tgt := 53) hx hb dX4_swap_40 (by decide) (fun h_40 => absurd h_40 (by decide)) (fun h_40 => ?_)
  exact k_throw (text := "somebody would be on call on two days in a row") hQ hout hx hb hlt hml hlk hown hts (by decide) (by decide +kernel) (by decide +kernel) hatIS k_badIS k_goodIS_48 (by decide +kernel) (by decide +kernel) hK hZ hS hW hl rfl dX4_swap_43 dX4_swap_46 dX4_swap_47 dX4_swap_49 dX4_swap_52 (Nat.le_of_ble_eq_true rfl) (Nat.le_of_ble_eq_true rfl) (Nat.le_of_ble_eq_true rfl) (Nat.le_of_ble_eq_true rfl) (Nat.le_of_ble_eq_true rfl) (Nat.le_of_ble_eq_true rfl)
set_option maxRecDepth 100000 in
set_option maxHeartbeats 4000000 in
theorem c_X4_swap_ok (l : Launch) (hlt : l.stackTraces = false) (g : k_g) (ad : k_AD) (t : k_T) (j : Nat) (k : Nat) (hd : x_d t ≤ 360) (h1 : x_d t ≤ j) (h2 : j ≤ 364) (h3 : x_d t ≤ k) (h4 : k ≤ 364) (hne : j ≠ k) (hp : ∀ i, i < 365 → r_p t i < 5) (h5 : k_rest (k_ex (r_p t) j k) j = true) (h6 : k_rest (k_ex (r_p t) j k) k = true) : Met l yX4_swap wsX4_swap rm_X4_swap (va_Pc [.ref (ad 0 0), .int (nI j), .int (nI k)] (k_I g (k_ct g ad t) ad)) (va_Qi (fun r u => r = nI (k_ex (r_p t) j k j) ∧ u = set_r_p t (k_ex (r_p t) j k)) (fun u U => k_H g ad u U.heap) (k_A g)) 2 12 (k_A g) := by
  refine k_met (cc := cX4_swap) (maxL := 3) (ret := (some .int)) (by decide) rfl (Nat.le_of_ble_eq_true rfl) (fun p e s m args below meth c Q ls hQ hx hb hr hml hts hown hlk hin hK hZ hN hW hS hl => ?_)
  have hown : s.vm.findClass RX4 = some m.cls := hown
  have hW : k_H g ad t s.heap := hW
  have hl : lv_has ls 3 [(0, .ref (ad 0 0)), (1, .int (nI j)), (2, .int (nI k))] := hl
  have hinX4 : ∀ w ∈ wsX40, w ∈ wsX4_swap := by decide +kernel
  refine lv_aload_n hx hb dX4_swap_0 rfl (lv_at hl 0 rfl) ?_
  refine lv_iload_n hx hb dX4_swap_1 rfl (lv_at hl 1 rfl) ?_
  refine k_ci (va_runV (As := [.int (nI j)]) (rest := []) ⟨hx, hb, hml, hown, hts⟩ (c_X4_isOpenForSwaps l hlt g ad t j hd h1 h2) (cwV 1 hts gX4_swap_X4_isOpenForSwaps rfl rfl rfl (by decide +kernel) ⟨(Nat.le_of_ble_eq_true rfl), (Nat.le_of_ble_eq_true rfl)⟩) ⟨k_blind, k_recv hK hW (kc_0 g ad t) rfl, fun U hU hw => ⟨rfl, k_I.of hK hZ hN hS hW hU hw⟩⟩ rfl rfl hl.1 rfl (lv_room (Nat.le_of_ble_eq_true rfl)) dX4_swap_2 ⟨(Nat.le_of_ble_eq_true rfl), (Nat.le_of_ble_eq_true rfl)⟩) hS (fun r u H locs hpo hW hS => ?_)
  obtain ⟨hr9, hu9⟩ := hpo; replace hu9 := hu9.symm; subst hu9; replace hr9 := hr9.symm; subst hr9
  refine lv_if_eq (tgt := 21) hx hb dX4_swap_5 (by decide) (fun h_5 => absurd h_5 (by decide)) (fun h_5 => ?_)
  refine lv_aload_n hx hb dX4_swap_8 rfl (lv_at hl 0 rfl) ?_
  refine lv_iload_n hx hb dX4_swap_9 rfl (lv_at hl 2 rfl) ?_
  refine k_ci (va_runV (As := [.int (nI k)]) (rest := []) ⟨hx, hb, hml, hown, hts⟩ (c_X4_isOpenForSwaps l hlt g ad t k hd h3 h4) (cwV 1 hts gX4_swap_X4_isOpenForSwaps rfl rfl rfl (by decide +kernel) ⟨(Nat.le_of_ble_eq_true rfl), (Nat.le_of_ble_eq_true rfl)⟩) ⟨k_blind, k_recv hK hW (kc_0 g ad t) rfl, fun U hU hw => ⟨rfl, k_I.of hK hZ hN hS hW hU hw⟩⟩ rfl rfl hl.1 rfl (lv_room (Nat.le_of_ble_eq_true rfl)) dX4_swap_10 ⟨(Nat.le_of_ble_eq_true rfl), (Nat.le_of_ble_eq_true rfl)⟩) hS (fun r u H locs hpo hW hS => ?_)
  obtain ⟨hr9, hu9⟩ := hpo; replace hu9 := hu9.symm; subst hu9; replace hr9 := hr9.symm; subst hr9
  refine lv_if_eq (tgt := 21) hx hb dX4_swap_13 (by decide) (fun h_13 => absurd h_13 (by decide)) (fun h_13 => ?_)
  refine lv_iload_n hx hb dX4_swap_16 rfl (lv_at hl 1 rfl) ?_
  refine lv_iload_n hx hb dX4_swap_17 rfl (lv_at hl 2 rfl) ?_
  refine k_icmp_ne (tgt := 31) hx hb (a := j) (b := k) (by omega) (by omega) dX4_swap_18 (by decide) (fun h_18 => ?_) (fun h_18 => absurd h_18 (by omega))
  refine lv_aload_n hx hb dX4_swap_31 rfl (lv_at hl 0 rfl) ?_
  refine k_get (own := RX4) (C := RX4) (T := TX4) (N := 4) hx hb hts hinX4 hown hK hW (kc_0 g ad t) rfl 2 (by decide) (hts (.fieldLink RX4 26 "DrillVault" "rota" "LDrillVault$Rota;") (by decide +kernel)) rfl (v := .ref (ad 7 0)) rfl dX4_swap_32 ?_
  refine lv_iload_n hx hb dX4_swap_35 rfl (lv_at hl 1 rfl) ?_
  refine lv_iload_n hx hb dX4_swap_36 rfl (lv_at hl 2 rfl) ?_
  refine k_ci (va_runV (As := [.int (nI j), .int (nI k)]) (rest := []) ⟨hx, hb, hml, hown, hts⟩ (c_X2_exchangeIfRested_ok l hlt g ad t j k (by omega) (by omega) hp h5 h6) (cwV 2 hts gX4_swap_X2_exchangeIfRested rfl rfl rfl (by decide +kernel) ⟨(Nat.le_of_ble_eq_true rfl), (Nat.le_of_ble_eq_true rfl)⟩) ⟨k_blind, k_recv hK hW (kc_7 g ad t) rfl, fun U hU hw => ⟨rfl, k_I.of hK hZ hN hS hW hU hw⟩⟩ rfl rfl hl.1 rfl (lv_room (Nat.le_of_ble_eq_true rfl)) dX4_swap_37 ⟨(Nat.le_of_ble_eq_true rfl), (Nat.le_of_ble_eq_true rfl)⟩) hS (fun r u H locs hpo hW hS => ?_)
  obtain ⟨hr9, hu9⟩ := hpo; replace hu9 := hu9.symm; subst hu9; replace hr9 := hr9.symm; subst hr9
  have hW : k_H g ad (set_r_p t (k_ex (r_p t) j k)) H := hW
  refine lv_if_ne (tgt := 53) hx hb dX4_swap_40 (by decide) (fun h_40 => ?_) (fun h_40 => absurd h_40 (by decide))
  refine lv_aload_n hx hb dX4_swap_53 rfl (lv_at hl 0 rfl) ?_
  refine k_get (own := RX4) (C := RX4) (T := TX4) (N := 4) hx hb hts hinX4 hown hK hW (kc_0 g ad (set_r_p t (k_ex (r_p t) j k))) rfl 2 (by decide) (hts (.fieldLink RX4 26 "DrillVault" "rota" "LDrillVault$Rota;") (by decide +kernel)) rfl (v := .ref (ad 7 0)) rfl dX4_swap_54 ?_
  refine lv_iload_n hx hb dX4_swap_57 rfl (lv_at hl 1 rfl) ?_
  refine k_ci (va_runV (As := [.int (nI j)]) (rest := []) ⟨hx, hb, hml, hown, hts⟩ (c_X2_personOn l hlt g ad (set_r_p t (k_ex (r_p t) j k)) j (by omega)) (cwV 1 hts gX4_swap_X2_personOn rfl rfl rfl (by decide +kernel) ⟨(Nat.le_of_ble_eq_true rfl), (Nat.le_of_ble_eq_true rfl)⟩) ⟨k_blind, k_recv hK hW (kc_7 g ad (set_r_p t (k_ex (r_p t) j k))) rfl, fun U hU hw => ⟨rfl, k_I.of hK hZ hN hS hW hU hw⟩⟩ rfl rfl hl.1 rfl (lv_room (Nat.le_of_ble_eq_true rfl)) dX4_swap_58 ⟨(Nat.le_of_ble_eq_true rfl), (Nat.le_of_ble_eq_true rfl)⟩) hS (fun r u H locs hpo hW hS => ?_)
  obtain ⟨hr9, hu9⟩ := hpo; replace hu9 := hu9.symm; subst hu9; replace hr9 := hr9.symm; subst hr9
  exact k_ri hQ hx hb hr hlk hS hW ⟨rfl, rfl⟩ (Nat.le_of_ble_eq_true rfl) (Nat.le_of_ble_eq_true rfl) dX4_swap_61
