abbrev rm_L_isHeld : Room := { frames := 11, cells := 100000, slots := 600000, locals := 223 }
set_option maxRecDepth 100000 in
set_option maxHeartbeats 4000000 in
theorem c_L_isHeld (l : Launch) (hlt : l.stackTraces = false) (g : k_g) (b L : Nat) (xs : Nat → Int32) (hbg : b < g.2.2) (hL : L ≤ 260) : vx_Met l yL_isHeld wsL_isHeld rm_L_isHeld (va_Pc [.ref b] (fun U => k_I g (fun _ _ => none) (fun _ _ => 0) U ∧ va_X b L xs U U.heap)) (va_Qi (S := k_T × k_AD) (fun r _ => r = nI 1) (fun u U => k_H g u.2 u.1 U.heap) (k_A g)) (fun _ _ _ => False) 100000 600000 (k_A g) := by
  refine k_metHS (cc := cL_isHeld) (maxL := 2) (ret := (some .boolean)) (by decide) rfl (Nat.le_of_ble_eq_true rfl) (fun p e s m args below meth c Q ls hQ hx hb hr hml hts hown hlk htab hK hZ hN hW hX hS hl => ?_)
  have hown : s.vm.findClass RL = some m.cls := hown
  have hl : lv_has ls 2 [(0, .ref b)] := hl
  refine lv_aload_n hx hb dL_isHeld_0 rfl (lv_at hl 0 rfl) ?_
  refine k_ciA (va_runS (As := [.ref b]) (rest := []) ⟨hx, hb, hml, hown, hts⟩ (c_L_holds l hlt g b L xs hbg hL) (va_cwS 1 hts gL_isHeld_L_holds rfl rfl rfl (by decide +kernel) ⟨(Nat.le_of_ble_eq_true rfl), (Nat.le_of_ble_eq_true rfl)⟩) ⟨k_blindX, fun U hU hw => ⟨rfl, k_I.of hK hZ hN hS hW hU hw, k_Xof hX hbg hN hS hU hw⟩⟩ rfl rfl hl.1 rfl (lv_room (Nat.le_of_ble_eq_true rfl)) dL_isHeld_1 ⟨(Nat.le_of_ble_eq_true rfl), (Nat.le_of_ble_eq_true rfl)⟩) hS (fun r u H locs hpo hW hS => ?_)
  obtain ⟨t1, ad1⟩ := u
  have hpo : r = nI 1 := hpo
  subst hpo
  subst hQ
  exact vx_ret (k_rzA (t := t1) (ad := ad1) rfl hx hb hr rfl hlk hS hW rfl (Nat.le_of_ble_eq_true rfl) (Nat.le_of_ble_eq_true rfl) dL_isHeld_4)
set_option maxRecDepth 100000 in
set_option maxHeartbeats 8000000 in
/-- THE LAW, from its entry -/
theorem whole_start {p : Program} {e : Env} {s : State} {m : MethodId} {below : List Frame} {meth : Method} {c : Code} (l : Launch) (hflags : l.flags = flags0) {b L : Nat} {xs : Nat → Int32} (hL : L ≤ 260) (C0 : lw_At p s m meth c b L xs) : W p l e room_1 s m #[Value.ref b] below meth c s.heap [] 0 0 (lw_Z below #[Value.ref b] s) (entryFrame m ([Value.ref b] : List Value).toArray 1) := by
  obtain ⟨hx, hb, hr, hml, hown, hts0, hX, hbl, hlocks, hgv⟩ := C0
  have hlt : l.stackTraces = false := by
    unfold Launch.stackTraces
    rw [hflags]
    decide +kernel
  have hts : ∀ w ∈ wsL_law, w.before #[Value.ref b] s = true := fun w h => hts0 w (wsL_law_in w h)
  obtain ⟨g, hg, hK, hZ⟩ := lw_known hts0 hgv
  have hown : s.vm.findClass RL = some m.cls := hown
  have hN : g.2.2 ≤ s.heap.size := by omega
  have hbg : b < g.2.2 := by omega
  have hS : va_S (k_A g) s.heap s.heap [] := va_S.rf
  have hW : k_Wd g (fun _ _ => none) (fun _ _ => 0) s.heap := ⟨(fun a b e h => by cases h), (fun a b a' b' e e' h => by cases h)⟩
  have hl := lv_entry ([.ref b]) (n := 1) (Nat.le_of_ble_eq_true rfl)
  rw [lg_entry_eq]
  generalize (lg_sl ([.ref b]) ++ List.replicate (1 - (lg_sl ([.ref b])).length) Slot.unset).toArray = ls at hl ⊢
  have hl : lv_has ls 1 [(0, .ref b)] := hl
  refine lv_aload_n hx hb dL_law_0 rfl (lv_at hl 0 rfl) ?_
  refine k_ciA (lw_va (vx_runSX (As := [.ref b]) (rest := []) ⟨hx, hb, hml, hown, hts⟩ (c_L_isHeld l hlt g b L xs hbg hL) (vx_cwSW 1 hts gL_law_L_isHeld rfl rfl rfl (by decide +kernel) ⟨(Nat.le_of_ble_eq_true rfl), (Nat.le_of_ble_eq_true rfl)⟩) ⟨k_blindX, fun U hU hw => ⟨rfl, k_I.of hK hZ hN hS hW hU hw, k_Xof hX hbg hN hS hU hw⟩⟩ rfl rfl hl.1 rfl (lv_room (Nat.le_of_ble_eq_true rfl)) dL_law_1 ⟨(Nat.le_of_ble_eq_true rfl), (Nat.le_of_ble_eq_true rfl)⟩)) hS (fun r u H locs hpo hW hS => ?_)
  have hpo : r = nI 1 := hpo
  subst hpo
  refine va_forget (fun q h => by have h9 : g.2.2 ≤ q.base := hS.2.2 q h; omega) ?_
  refine W.widen (k := 650132) (n := 7151071) (Nat.le_of_ble_eq_true rfl) (Nat.le_of_ble_eq_true rfl) ?_
  exact lw_ret hx hb hr hlocks dL_law_4
