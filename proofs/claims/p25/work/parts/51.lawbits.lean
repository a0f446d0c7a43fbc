abbrev rm_L_ones : Room := { frames := 0, cells := 0, slots := 0, locals := 0 }
set_option maxRecDepth 100000 in
set_option maxHeartbeats 4000000 in
theorem c_L_ones (l : Launch) (hlt : l.stackTraces = false) (g : k_g) (ad : k_AD) (t : k_T) (F : Nat → Bool) : Met l yL_ones wsL_ones rm_L_ones (va_Pc [.int (kB F)] (k_I g (k_ct g ad t) ad)) (va_Qi (fun r u => r = nI (k_cb F 14) ∧ u = t) (fun u U => k_H g ad u U.heap) (k_A g)) 0 0 (k_A g) := by
  refine k_met (cc := cL_ones) (maxL := 3) (ret := (some .int)) (by decide) rfl (Nat.le_of_ble_eq_true rfl) (fun p e s m args below meth c Q ls hQ hx hb hr hml hts hown hlk hin hK hZ hN hW hS hl => ?_)
  have hown : s.vm.findClass RL = some m.cls := hown
  have hW : k_H g ad t s.heap := hW
  have hl : lv_has ls 3 [(0, .int (kB F))] := hl
  refine lv_iconst (v := nI 0) hx hb dL_ones_0 (by decide) ?_
  refine lv_istore_n (lv' := [(1, .int (nI 0)), (0, .int (kB F))]) hx hb dL_ones_1 rfl hl (by decide) rfl (fun ls hl => ?_)
  refine lv_iload_n hx hb dL_ones_2 rfl (lv_at hl 1 rfl) ?_
  refine lv_istore_n (lv' := [(2, .int (kB F)), (1, .int (nI 0)), (0, .int (kB F))]) hx hb dL_ones_3 rfl hl (by decide) rfl (fun ls hl => ?_)
  have hloop_4 : ∀ (n : Nat) (cn : Nat) (G : Nat → Bool), (k_cb G 14 < n) → (k_cb F 14 = cn + k_cb G 14) → ∀ (H : Heap) (locs : List Loc), k_H g ad t H → va_S (k_A g) s.heap H locs → ∀ (ls : Array Slot), lv_has ls 3 [(0, .int (kB F)), (1, .int (nI cn)), (2, .int (kB G))] → W p l e rm_L_ones s m args below meth c H locs 0 0 Q (F0 m 4 ls []) := by
    intro n
    induction n with
    | zero =>
      intro cn G hfu hcn
      exact absurd hfu (by omega)
    | succ n ih =>
      intro cn G hfu hcn H locs hW hS ls hl
      refine lv_iload_n hx hb dL_ones_4 rfl (lv_at hl 2 rfl) ?_
      refine lv_if_eq (tgt := 20) hx hb dL_ones_5 (by decide) (fun h_5 => ?_) (fun h_5 => ?_)
      · refine lv_iload_n hx hb dL_ones_20 rfl (lv_at hl 1 rfl) ?_
        exact k_ri hQ hx hb hr hlk hS hW ⟨by rw [hcn, k_cb_0 14 (kB_eq0 h_5)]; rfl, rfl⟩ (Nat.le_of_ble_eq_true rfl) (Nat.le_of_ble_eq_true rfl) dL_ones_21
      · refine lv_iinc (v := nI (cn + 1)) (lv' := [(1, .int (nI (cn + 1))), (0, .int (kB F)), (2, .int (kB G))]) hx hb dL_ones_8 hl (k := 1) rfl (nI_add _ _) (by decide) rfl (fun ls hl => ?_)
        refine lv_iload_n hx hb dL_ones_11 rfl (lv_at hl 2 rfl) ?_
        refine lv_iload_n hx hb dL_ones_12 rfl (lv_at hl 2 rfl) ?_
        refine lv_iconst (v := nI 1) hx hb dL_ones_13 (by decide) ?_
        refine lv_isub hx hb dL_ones_14 ?_
        refine lv_iand hx hb dL_ones_15 ?_
        obtain ⟨k9, hk1, hk2, hk3⟩ := kB_low h_5
        refine k_toi (y := kB (va_up G k9 false)) hk3 ?_
        refine lv_istore_n (lv' := [(2, .int (kB (va_up G k9 false))), (1, .int (nI (cn + 1))), (0, .int (kB F))]) hx hb dL_ones_16 rfl hl (by decide) rfl (fun ls hl => ?_)
        refine lv_goto (tgt := 4) hx hb dL_ones_17 (by decide) ?_
        exact ih (cn + 1) (va_up G k9 false) (by have := k_cb_off hk2 14 hk1; omega) (by have := k_cb_off hk2 14 hk1; omega) _ _ hW hS _ (lv_sub hl [2, 1, 0] rfl)
  exact hloop_4 15 0 F (by have := k_cb_le F 14; omega) (Nat.zero_add _).symm _ _ hW hS _ (lv_sub hl [2, 1, 0] rfl)
abbrev rm_L_chain : Room := { frames := 0, cells := 0, slots := 0, locals := 0 }
set_option maxRecDepth 100000 in
set_option maxHeartbeats 4000000 in
theorem c_L_chain (l : Launch) (hlt : l.stackTraces = false) (g : k_g) (ad : k_AD) (t : k_T) (k0 : Nat) (N : Nat) (bs : Nat → Option Nat) (hk : k0 < N) (hN9 : N ≤ 14) (hx1 : ∀ k, k < N → w_x t (14 + k) = kO (bs k)) (hbs : ∀ k b, k < N → bs k = some b → b < k) : Met l yL_chain wsL_chain rm_L_chain (va_Pc [.ref (ad 9 0), .int (nI k0)] (k_I g (k_ct g ad t) ad)) (va_Qi (fun r u => r = kB (fun j => (k_cl bs k0).contains j) ∧ u = t) (fun u U => k_H g ad u U.heap) (k_A g)) 0 0 (k_A g) := by
  refine k_met (cc := cL_chain) (maxL := 4) (ret := (some .int)) (by decide) rfl (Nat.le_of_ble_eq_true rfl) (fun p e s m args below meth c Q ls hQ hx hb hr hml hts hown hlk hin hK hZ hN hW hS hl => ?_)
  have hown : s.vm.findClass RL = some m.cls := hown
  have hW : k_H g ad t s.heap := hW
  have hl : lv_has ls 4 [(0, .ref (ad 9 0)), (1, .int (nI k0))] := hl
  refine lv_iconst (v := nI 0) hx hb dL_chain_0 (by decide) ?_
  refine k_toi (y := kB (fun _ => false)) kB_0.symm ?_
  refine lv_istore_n (lv' := [(2, .int (kB (fun _ => false))), (0, .ref (ad 9 0)), (1, .int (nI k0))]) hx hb dL_chain_1 rfl hl (by decide) rfl (fun ls hl => ?_)
  refine lv_iload_n hx hb dL_chain_2 rfl (lv_at hl 2 rfl) ?_
  refine lv_istore_n (lv' := [(3, .int (nI k0)), (2, .int (kB (fun _ => false))), (0, .ref (ad 9 0)), (1, .int (nI k0))]) hx hb dL_chain_3 rfl hl (by decide) rfl (fun ls hl => ?_)
  have hloop_4 : ∀ (n : Nat) (cur : Option Nat) (C9 : Nat → Bool), (0 < n) → (∀ q, cur = some q → q + 1 < n ∧ q < N) → (∀ j, (fun j => (k_cl bs k0).contains j) j = (C9 j || (k_clo bs cur).contains j)) → ∀ (H : Heap) (locs : List Loc), k_H g ad t H → va_S (k_A g) s.heap H locs → ∀ (ls : Array Slot), lv_has ls 4 [(0, .ref (ad 9 0)), (1, .int (nI k0)), (2, .int (kB C9)), (3, .int (kO cur))] → W p l e rm_L_chain s m args below meth c H locs 0 0 Q (F0 m 4 ls []) := by
    intro n
    induction n with
    | zero =>
      intro cur C9 hfu hck hz
      exact absurd hfu (by omega)
    | succ n ih =>
      intro cur C9 hfu hck hz H locs hW hS ls hl
      rcases cur with _ | k
      · have hl : lv_has ls 4 [(0, .ref (ad 9 0)), (1, .int (nI k0)), (2, .int (kB C9)), (3, .int (-1))] := hl
        refine lv_iload_n hx hb dL_chain_4 rfl (lv_at hl 3 rfl) ?_
        refine lv_if_lt (tgt := 24) hx hb dL_chain_5 (by decide) (fun h_5 => ?_) (fun h_5 => absurd (by decide) h_5)
        refine lv_iload_n hx hb dL_chain_24 rfl (lv_at hl 2 rfl) ?_
        exact k_ri hQ hx hb hr hlk hS hW ⟨congrArg kB (funext fun j => (hz j).trans (Bool.or_false _)).symm, rfl⟩ (Nat.le_of_ble_eq_true rfl) (Nat.le_of_ble_eq_true rfl) dL_chain_25
      · have hl : lv_has ls 4 [(0, .ref (ad 9 0)), (1, .int (nI k0)), (2, .int (kB C9)), (3, .int (nI k))] := hl
        rw [k_clo_some (fun b hb => hbs k b (hck _ rfl).2 hb)] at hz
        refine lv_iload_n hx hb dL_chain_4 rfl (lv_at hl 3 rfl) ?_
        refine k_if_lt (tgt := 24) hx hb (by have := (hck _ rfl).2; omega) dL_chain_5 (by decide) ?_
        refine lv_iload_n hx hb dL_chain_8 rfl (lv_at hl 2 rfl) ?_
        refine lv_iconst (v := nI 1) hx hb dL_chain_9 (by decide) ?_
        refine lv_iload_n hx hb dL_chain_10 rfl (lv_at hl 3 rfl) ?_
        refine lv_ishl hx hb dL_chain_11 ?_
        refine lv_ior hx hb dL_chain_12 ?_
        refine k_toi (y := kB (va_up C9 k true)) (kB_set C9 (by have := (hck _ rfl).2; omega)) ?_
        refine lv_istore_n (lv' := [(2, .int (kB (va_up C9 k true))), (0, .ref (ad 9 0)), (1, .int (nI k0)), (3, .int (nI k))]) hx hb dL_chain_13 rfl hl (by decide) rfl (fun ls hl => ?_)
        refine lv_aload_n hx hb dL_chain_14 rfl (lv_at hl 1 rfl) ?_
        refine lv_bipush (v := nI 14) hx hb dL_chain_15 (by decide) ?_
        refine lv_iload_n hx hb dL_chain_17 rfl (lv_at hl 3 rfl) ?_
        refine k_iadd hx hb dL_chain_18 ?_
        refine k_iald hx hb hK hW (kc_9 g ad t) (14 + k) rfl (by have := (hck _ rfl).2; omega) (by decide) dL_chain_19 ?_
        refine k_toi (y := kO (bs k)) (hx1 k (hck _ rfl).2) ?_
        refine lv_istore_n (lv' := [(3, .int (kO (bs k))), (2, .int (kB (va_up C9 k true))), (0, .ref (ad 9 0)), (1, .int (nI k0))]) hx hb dL_chain_20 rfl hl (by decide) rfl (fun ls hl => ?_)
        refine lv_goto (tgt := 4) hx hb dL_chain_21 (by decide) ?_
        exact ih (bs k) (va_up C9 k true) (by have := (hck _ rfl).1; omega) (fun q hq => ⟨by have h8 := hbs _ _ (hck _ rfl).2 hq; have := (hck _ rfl).1; omega, by have h8 := hbs _ _ (hck _ rfl).2 hq; have := (hck _ rfl).2; omega⟩) (k_nd_step hz) _ _ hW hS _ (lv_sub hl [2, 3, 1, 0] rfl)
  exact hloop_4 (k0 + 2) (some k0) (fun _ => false) (by omega) (fun q hq => by cases hq; exact ⟨by omega, hk⟩) (fun j => (Bool.false_or _).symm) _ _ hW hS _ (lv_sub hl [2, 3, 1, 0] rfl)
abbrev rm_L_promised : Room := { frames := 0, cells := 0, slots := 0, locals := 0 }
set_option maxRecDepth 100000 in
set_option maxHeartbeats 4000000 in
theorem c_L_promised (l : Launch) (hlt : l.stackTraces = false) (g : k_g) (ad : k_AD) (t : k_T) (N : Nat) (th : Nat → Bool) (on : Nat → Nat) (bs : Nat → Option Nat) (r1 : Nat) (r2 : Nat) (r3 : Nat) (hA : q_A t N th on bs) (hR : q_R t r1 r2 r3) : Met l yL_promised wsL_promised rm_L_promised (va_Pc [.ref (ad 9 0), .ref (ad 12 0)] (k_I g (k_ct g ad t) ad)) (va_Qi (fun r u => r = kB (k_P th on N r1 r2 r3) ∧ u = t) (fun u U => k_H g ad u U.heap) (k_A g)) 0 0 (k_A g) := by
  refine k_met (cc := cL_promised) (maxL := 11) (ret := (some .int)) (by decide) rfl (Nat.le_of_ble_eq_true rfl) (fun p e s m args below meth c Q ls hQ hx hb hr hml hts hown hlk hin hK hZ hN hW hS hl => ?_)
  have hown : s.vm.findClass RL = some m.cls := hown
  have hW : k_H g ad t s.heap := hW
  have hl : lv_has ls 11 [(0, .ref (ad 9 0)), (1, .ref (ad 12 0))] := hl
  have hN9 := hA.n14
  refine lv_iconst (v := nI 0) hx hb dL_promised_0 (by decide) ?_
  refine k_toi (y := kB (fun _ => false)) kB_0.symm ?_
  refine lv_istore_n (lv' := [(2, .int (kB (fun _ => false))), (0, .ref (ad 9 0)), (1, .ref (ad 12 0))]) hx hb dL_promised_1 rfl hl (by decide) rfl (fun ls hl => ?_)
  refine lv_iconst (v := nI 0) hx hb dL_promised_2 (by decide) ?_
  refine lv_istore_n (lv' := [(3, .int (nI 0)), (2, .int (kB (fun _ => false))), (0, .ref (ad 9 0)), (1, .ref (ad 12 0))]) hx hb dL_promised_3 rfl hl (by decide) rfl (fun ls hl => ?_)
  refine lv_iload_n hx hb dL_promised_4 rfl (lv_at hl 0 rfl) ?_
  refine lv_iconst (v := nI 3) hx hb dL_promised_5 (by decide) ?_
  refine lv_icmp_ge (tgt := 187) hx hb dL_promised_6 (by decide) (fun h_6 => absurd h_6 (by decide)) (fun h_6 => ?_)
  refine lv_iload_n hx hb dL_promised_9 rfl (lv_at hl 0 rfl) ?_
  refine lv_if_ne (tgt := 17) hx hb dL_promised_10 (by decide) (fun h_10 => absurd h_10 (by decide)) (fun h_10 => ?_)
  refine lv_iconst (v := nI 1) hx hb dL_promised_13 (by decide) ?_
  refine lv_goto (tgt := 29) hx hb dL_promised_14 (by decide) ?_
  refine lv_istore (lv' := [(4, .int (nI 1)), (3, .int (nI 0)), (2, .int (kB (fun _ => false))), (0, .ref (ad 9 0)), (1, .ref (ad 12 0))]) hx hb dL_promised_29 hl (by decide) rfl (fun ls hl => ?_)
  refine lv_iconst (v := nI 0) hx hb dL_promised_31 (by decide) ?_
  refine lv_istore (lv' := [(5, .int (nI 0)), (4, .int (nI 1)), (3, .int (nI 0)), (2, .int (kB (fun _ => false))), (0, .ref (ad 9 0)), (1, .ref (ad 12 0))]) hx hb dL_promised_32 hl (by decide) rfl (fun ls hl => ?_)
  have hloop_34 : ∀ (n : Nat) (k : Nat) (Pm : Nat → Bool), (N < k + n) → (k ≤ N) → (∀ j, Pm j = ((fun j => false) j || (decide (j < k) && (fun j => k_sel th (fun q => on q / 1) N r1 (-1) j) j))) → ∀ (H : Heap) (locs : List Loc), k_H g ad t H → va_S (k_A g) s.heap H locs → ∀ (ls : Array Slot), lv_has ls 11 [(0, .ref (ad 9 0)), (1, .ref (ad 12 0)), (2, .int (kB Pm)), (3, .int (nI 0)), (4, .int (nI 1)), (5, .int (nI k))] → W p l e rm_L_promised s m args below meth c H locs 0 0 Q (F0 m 34 ls []) := by
    intro n
    induction n with
    | zero =>
      intro k Pm hfu hk hP
      exact absurd hfu (by omega)
    | succ n ih =>
      intro k Pm hfu hk hP H locs hW hS ls hl
      refine lv_iload hx hb dL_promised_34 (lv_at hl 5 rfl) ?_
      refine lv_aload_n hx hb dL_promised_36 rfl (lv_at hl 1 rfl) ?_
      refine lv_iconst (v := nI 0) hx hb dL_promised_37 (by decide) ?_
      refine k_iald hx hb hK hW (kc_12 g ad t) 0 rfl (by omega) (by decide) dL_promised_38 ?_
      refine k_toi (y := nI N) hA.m0 ?_
      refine k_icmp_ge (tgt := 181) hx hb (a := k) (b := N) (by omega) (by omega) dL_promised_39 (by decide) (fun h_39 => ?_) (fun h_39 => ?_)
      · have hPe := q_pk_end hP (fun j hj => Nat.lt_of_lt_of_le (k_sel_th _ _ _ _ hj).2 h_39)
        subst hPe
        have hl : lv_has ls 11 [(0, .ref (ad 9 0)), (1, .ref (ad 12 0)), (2, .int (kB (fun j => (false || k_sel th (fun q => on q / 1) N r1 (-1) j)))), (3, .int (nI 0)), (4, .int (nI 1)), (5, .int (nI k))] := hl
        refine lv_iinc (v := nI 1) (lv' := [(3, .int (nI 1)), (0, .ref (ad 9 0)), (1, .ref (ad 12 0)), (2, .int (kB (fun j => (false || k_sel th (fun q => on q / 1) N r1 (-1) j)))), (4, .int (nI 1)), (5, .int (nI k))]) hx hb dL_promised_181 hl (k := 3) rfl (nI_add _ _) (by decide) rfl (fun ls hl => ?_)
        refine lv_goto (tgt := 4) hx hb dL_promised_184 (by decide) ?_
        refine lv_iload_n hx hb dL_promised_4 rfl (lv_at hl 0 rfl) ?_
        refine lv_iconst (v := nI 3) hx hb dL_promised_5 (by decide) ?_
        refine lv_icmp_ge (tgt := 187) hx hb dL_promised_6 (by decide) (fun h_6 => absurd h_6 (by decide)) (fun h_6 => ?_)
        refine lv_iload_n hx hb dL_promised_9 rfl (lv_at hl 0 rfl) ?_
        refine lv_if_ne (tgt := 17) hx hb dL_promised_10 (by decide) (fun h_10 => ?_) (fun h_10 => absurd h_10 (by decide))
        refine lv_iload_n hx hb dL_promised_17 rfl (lv_at hl 0 rfl) ?_
        refine lv_iconst (v := nI 1) hx hb dL_promised_18 (by decide) ?_
        refine lv_icmp_ne (tgt := 27) hx hb dL_promised_19 (by decide) (fun h_19 => absurd h_19 (by decide)) (fun h_19 => ?_)
        refine lv_bipush (v := nI 7) hx hb dL_promised_22 (by decide) ?_
        refine lv_goto (tgt := 29) hx hb dL_promised_24 (by decide) ?_
        refine lv_istore (lv' := [(4, .int (nI 7)), (3, .int (nI 1)), (0, .ref (ad 9 0)), (1, .ref (ad 12 0)), (2, .int (kB (fun j => (false || k_sel th (fun q => on q / 1) N r1 (-1) j)))), (5, .int (nI k))]) hx hb dL_promised_29 hl (by decide) rfl (fun ls hl => ?_)
        refine lv_iconst (v := nI 0) hx hb dL_promised_31 (by decide) ?_
        refine lv_istore (lv' := [(5, .int (nI 0)), (4, .int (nI 7)), (3, .int (nI 1)), (0, .ref (ad 9 0)), (1, .ref (ad 12 0)), (2, .int (kB (fun j => (false || k_sel th (fun q => on q / 1) N r1 (-1) j))))]) hx hb dL_promised_32 hl (by decide) rfl (fun ls hl => ?_)
        have hloop_34 : ∀ (n : Nat) (k : Nat) (Pm : Nat → Bool), (N < k + n) → (k ≤ N) → (∀ j, Pm j = ((fun j => (false || k_sel th (fun q => on q / 1) N r1 (-1) j)) j || (decide (j < k) && (fun j => k_sel th (fun q => on q / 7) N r2 (-1) j) j))) → ∀ (H : Heap) (locs : List Loc), k_H g ad t H → va_S (k_A g) s.heap H locs → ∀ (ls : Array Slot), lv_has ls 11 [(0, .ref (ad 9 0)), (1, .ref (ad 12 0)), (2, .int (kB Pm)), (3, .int (nI 1)), (4, .int (nI 7)), (5, .int (nI k))] → W p l e rm_L_promised s m args below meth c H locs 0 0 Q (F0 m 34 ls []) := by
          intro n
          induction n with
          | zero =>
            intro k Pm hfu hk hP
            exact absurd hfu (by omega)
          | succ n ih =>
            intro k Pm hfu hk hP H locs hW hS ls hl
            refine lv_iload hx hb dL_promised_34 (lv_at hl 5 rfl) ?_
            refine lv_aload_n hx hb dL_promised_36 rfl (lv_at hl 1 rfl) ?_
            refine lv_iconst (v := nI 0) hx hb dL_promised_37 (by decide) ?_
            refine k_iald hx hb hK hW (kc_12 g ad t) 0 rfl (by omega) (by decide) dL_promised_38 ?_
            refine k_toi (y := nI N) hA.m0 ?_
            refine k_icmp_ge (tgt := 181) hx hb (a := k) (b := N) (by omega) (by omega) dL_promised_39 (by decide) (fun h_39 => ?_) (fun h_39 => ?_)
            · have hPe := q_pk_end hP (fun j hj => Nat.lt_of_lt_of_le (k_sel_th _ _ _ _ hj).2 h_39)
              subst hPe
              have hl : lv_has ls 11 [(0, .ref (ad 9 0)), (1, .ref (ad 12 0)), (2, .int (kB (fun j => ((false || k_sel th (fun q => on q / 1) N r1 (-1) j) || k_sel th (fun q => on q / 7) N r2 (-1) j)))), (3, .int (nI 1)), (4, .int (nI 7)), (5, .int (nI k))] := hl
              refine lv_iinc (v := nI 2) (lv' := [(3, .int (nI 2)), (0, .ref (ad 9 0)), (1, .ref (ad 12 0)), (2, .int (kB (fun j => ((false || k_sel th (fun q => on q / 1) N r1 (-1) j) || k_sel th (fun q => on q / 7) N r2 (-1) j)))), (4, .int (nI 7)), (5, .int (nI k))]) hx hb dL_promised_181 hl (k := 3) rfl (nI_add _ _) (by decide) rfl (fun ls hl => ?_)
              refine lv_goto (tgt := 4) hx hb dL_promised_184 (by decide) ?_
              refine lv_iload_n hx hb dL_promised_4 rfl (lv_at hl 0 rfl) ?_
              refine lv_iconst (v := nI 3) hx hb dL_promised_5 (by decide) ?_
              refine lv_icmp_ge (tgt := 187) hx hb dL_promised_6 (by decide) (fun h_6 => absurd h_6 (by decide)) (fun h_6 => ?_)
              refine lv_iload_n hx hb dL_promised_9 rfl (lv_at hl 0 rfl) ?_
              refine lv_if_ne (tgt := 17) hx hb dL_promised_10 (by decide) (fun h_10 => ?_) (fun h_10 => absurd h_10 (by decide))
              refine lv_iload_n hx hb dL_promised_17 rfl (lv_at hl 0 rfl) ?_
              refine lv_iconst (v := nI 1) hx hb dL_promised_18 (by decide) ?_
              refine lv_icmp_ne (tgt := 27) hx hb dL_promised_19 (by decide) (fun h_19 => ?_) (fun h_19 => absurd h_19 (by decide))
              refine lv_bipush (v := nI 28) hx hb dL_promised_27 (by decide) ?_
              refine lv_istore (lv' := [(4, .int (nI 28)), (3, .int (nI 2)), (0, .ref (ad 9 0)), (1, .ref (ad 12 0)), (2, .int (kB (fun j => ((false || k_sel th (fun q => on q / 1) N r1 (-1) j) || k_sel th (fun q => on q / 7) N r2 (-1) j)))), (5, .int (nI k))]) hx hb dL_promised_29 hl (by decide) rfl (fun ls hl => ?_)
              refine lv_iconst (v := nI 0) hx hb dL_promised_31 (by decide) ?_
              refine lv_istore (lv' := [(5, .int (nI 0)), (4, .int (nI 28)), (3, .int (nI 2)), (0, .ref (ad 9 0)), (1, .ref (ad 12 0)), (2, .int (kB (fun j => ((false || k_sel th (fun q => on q / 1) N r1 (-1) j) || k_sel th (fun q => on q / 7) N r2 (-1) j))))]) hx hb dL_promised_32 hl (by decide) rfl (fun ls hl => ?_)
              have hloop_34 : ∀ (n : Nat) (k : Nat) (Pm : Nat → Bool), (N < k + n) → (k ≤ N) → (∀ j, Pm j = ((fun j => ((false || k_sel th (fun q => on q / 1) N r1 (-1) j) || k_sel th (fun q => on q / 7) N r2 (-1) j)) j || (decide (j < k) && (fun j => k_sel th (fun q => on q / 28) N r3 (-1) j) j))) → ∀ (H : Heap) (locs : List Loc), k_H g ad t H → va_S (k_A g) s.heap H locs → ∀ (ls : Array Slot), lv_has ls 11 [(0, .ref (ad 9 0)), (1, .ref (ad 12 0)), (2, .int (kB Pm)), (3, .int (nI 2)), (4, .int (nI 28)), (5, .int (nI k))] → W p l e rm_L_promised s m args below meth c H locs 0 0 Q (F0 m 34 ls []) := by
                intro n
                induction n with
                | zero =>
                  intro k Pm hfu hk hP
                  exact absurd hfu (by omega)
                | succ n ih =>
                  intro k Pm hfu hk hP H locs hW hS ls hl
                  refine lv_iload hx hb dL_promised_34 (lv_at hl 5 rfl) ?_
                  refine lv_aload_n hx hb dL_promised_36 rfl (lv_at hl 1 rfl) ?_
                  refine lv_iconst (v := nI 0) hx hb dL_promised_37 (by decide) ?_
                  refine k_iald hx hb hK hW (kc_12 g ad t) 0 rfl (by omega) (by decide) dL_promised_38 ?_
                  refine k_toi (y := nI N) hA.m0 ?_
                  refine k_icmp_ge (tgt := 181) hx hb (a := k) (b := N) (by omega) (by omega) dL_promised_39 (by decide) (fun h_39 => ?_) (fun h_39 => ?_)
                  · have hPe := q_pk_end hP (fun j hj => Nat.lt_of_lt_of_le (k_sel_th _ _ _ _ hj).2 h_39)
                    subst hPe
                    have hl : lv_has ls 11 [(0, .ref (ad 9 0)), (1, .ref (ad 12 0)), (2, .int (kB (fun j => (((false || k_sel th (fun q => on q / 1) N r1 (-1) j) || k_sel th (fun q => on q / 7) N r2 (-1) j) || k_sel th (fun q => on q / 28) N r3 (-1) j)))), (3, .int (nI 2)), (4, .int (nI 28)), (5, .int (nI k))] := hl
                    refine lv_iinc (v := nI 3) (lv' := [(3, .int (nI 3)), (0, .ref (ad 9 0)), (1, .ref (ad 12 0)), (2, .int (kB (fun j => (((false || k_sel th (fun q => on q / 1) N r1 (-1) j) || k_sel th (fun q => on q / 7) N r2 (-1) j) || k_sel th (fun q => on q / 28) N r3 (-1) j)))), (4, .int (nI 28)), (5, .int (nI k))]) hx hb dL_promised_181 hl (k := 3) rfl (nI_add _ _) (by decide) rfl (fun ls hl => ?_)
                    refine lv_goto (tgt := 4) hx hb dL_promised_184 (by decide) ?_
                    refine lv_iload_n hx hb dL_promised_4 rfl (lv_at hl 0 rfl) ?_
                    refine lv_iconst (v := nI 3) hx hb dL_promised_5 (by decide) ?_
                    refine lv_icmp_ge (tgt := 187) hx hb dL_promised_6 (by decide) (fun h_6 => ?_) (fun h_6 => absurd h_6 (by decide))
                    refine lv_iload_n hx hb dL_promised_187 rfl (lv_at hl 3 rfl) ?_
                    exact k_ri hQ hx hb hr hlk hS hW ⟨q_P3.symm, rfl⟩ (Nat.le_of_ble_eq_true rfl) (Nat.le_of_ble_eq_true rfl) dL_promised_188
                  · refine lv_iconst (v := nI 0) hx hb dL_promised_42 (by decide) ?_
                    refine lv_istore (lv' := [(6, .int (nI 0)), (0, .ref (ad 9 0)), (1, .ref (ad 12 0)), (2, .int (kB Pm)), (3, .int (nI 2)), (4, .int (nI 28)), (5, .int (nI k))]) hx hb dL_promised_43 hl (by decide) rfl (fun ls hl => ?_)
                    refine lv_iconst (v := (-1)) hx hb dL_promised_45 (by decide) ?_
                    refine lv_istore (lv' := [(7, .int (-1)), (6, .int (nI 0)), (0, .ref (ad 9 0)), (1, .ref (ad 12 0)), (2, .int (kB Pm)), (3, .int (nI 2)), (4, .int (nI 28)), (5, .int (nI k))]) hx hb dL_promised_46 hl (by decide) rfl (fun ls hl => ?_)
                    refine lv_iconst (v := nI 1) hx hb dL_promised_48 (by decide) ?_
                    refine lv_istore (lv' := [(8, .int (nI 1)), (7, .int (-1)), (6, .int (nI 0)), (0, .ref (ad 9 0)), (1, .ref (ad 12 0)), (2, .int (kB Pm)), (3, .int (nI 2)), (4, .int (nI 28)), (5, .int (nI k))]) hx hb dL_promised_49 hl (by decide) rfl (fun ls hl => ?_)
                    refine lv_iload hx hb dL_promised_51 (lv_at hl 8 rfl) ?_
                    refine lv_iconst (v := nI 1) hx hb dL_promised_53 (by decide) ?_
                    refine k_iadd hx hb dL_promised_54 ?_
                    refine lv_istore (lv' := [(9, .int (nI (k + 1))), (8, .int (nI 1)), (7, .int (-1)), (6, .int (nI 0)), (0, .ref (ad 9 0)), (1, .ref (ad 12 0)), (2, .int (kB Pm)), (3, .int (nI 2)), (4, .int (nI 28)), (5, .int (nI k))]) hx hb dL_promised_55 hl (by decide) rfl (fun ls hl => ?_)
                    have hloop_57 : ∀ (n : Nat) (j : Nat) (tm : Nat) (lt : Int32) (lo : Bool), (N < j + n) → (k < j) → (j ≤ N) → (tm = q_tm th (fun q => on q / 28) k j) → (lt = q_lt th (fun q => on q / 28) k j) → (lo = q_lo th (fun q => on q / 28) k j) → ∀ (H : Heap) (locs : List Loc), k_H g ad t H → va_S (k_A g) s.heap H locs → ∀ (ls : Array Slot), lv_has ls 11 [(0, .ref (ad 9 0)), (1, .ref (ad 12 0)), (2, .int (kB Pm)), (3, .int (nI 2)), (4, .int (nI 28)), (5, .int (nI k)), (6, .int (nI tm)), (7, .int lt), (8, .int (kb lo)), (9, .int (nI j))] → W p l e rm_L_promised s m args below meth c H locs 0 0 Q (F0 m 57 ls []) := by
                      intro n
                      induction n with
                      | zero =>
                        intro j tm lt lo hfu2 hkj hjN htm hlt9 hlo
                        exact absurd hfu2 (by omega)
                      | succ n ih_57 =>
                        intro j tm lt lo hfu2 hkj hjN htm hlt9 hlo H locs hW hS ls hl
                        refine lv_iload hx hb dL_promised_57 (lv_at hl 9 rfl) ?_
                        refine lv_aload_n hx hb dL_promised_59 rfl (lv_at hl 1 rfl) ?_
                        refine lv_iconst (v := nI 0) hx hb dL_promised_60 (by decide) ?_
                        refine k_iald hx hb hK hW (kc_12 g ad t) 0 rfl (by omega) (by decide) dL_promised_61 ?_
                        refine k_toi (y := nI N) hA.m0 ?_
                        refine k_icmp_ge (tgt := 137) hx hb (a := j) (b := N) (by omega) (by omega) dL_promised_62 (by decide) (fun h_62 => ?_) (fun h_62 => ?_)
                        · refine lv_iload_n hx hb dL_promised_137 rfl (lv_at hl 2 rfl) ?_
                          refine lv_aload_n hx hb dL_promised_138 rfl (lv_at hl 1 rfl) ?_
                          refine lv_iconst (v := nI 2) hx hb dL_promised_139 (by decide) ?_
                          refine k_iald hx hb hK hW (kc_12 g ad t) 2 rfl (by omega) (by decide) dL_promised_140 ?_
                          refine k_toi (y := kB th) hA.m2 ?_
                          refine lv_iload hx hb dL_promised_141 (lv_at hl 5 rfl) ?_
                          refine lv_ishr hx hb dL_promised_143 ?_
                          refine lv_iconst (v := nI 1) hx hb dL_promised_144 (by decide) ?_
                          refine lv_iand hx hb dL_promised_145 ?_
                          refine k_toi (y := kb (th k)) (kB_bit th (by omega)) ?_
                          refine lv_iconst (v := nI 1) hx hb dL_promised_146 (by decide) ?_
                          refine k_b1_ne (tgt := 172) hx hb dL_promised_147 (by decide) (fun h_147 => ?_) (fun h_147 => ?_)
                          · refine lv_iconst (v := nI 0) hx hb dL_promised_172 (by decide) ?_
                            refine lv_ior hx hb dL_promised_173 ?_
                            refine k_toi (y := kB Pm) (kB_or0 Pm) ?_
                            refine lv_istore_n (lv' := [(2, .int (kB Pm)), (0, .ref (ad 9 0)), (1, .ref (ad 12 0)), (3, .int (nI 2)), (4, .int (nI 28)), (5, .int (nI k)), (6, .int (nI tm)), (7, .int lt), (8, .int (kb lo)), (9, .int (nI j))]) hx hb dL_promised_174 rfl hl (by decide) rfl (fun ls hl => ?_)
                            refine lv_iinc (v := nI (k + 1)) (lv' := [(5, .int (nI (k + 1))), (2, .int (kB Pm)), (0, .ref (ad 9 0)), (1, .ref (ad 12 0)), (3, .int (nI 2)), (4, .int (nI 28)), (6, .int (nI tm)), (7, .int lt), (8, .int (kb lo)), (9, .int (nI j))]) hx hb dL_promised_175 hl (k := 5) rfl (nI_add _ _) (by decide) rfl (fun ls hl => ?_)
                            refine lv_goto (tgt := 34) hx hb dL_promised_178 (by decide) ?_
                            exact ih (k + 1) (Pm) (by omega) (by omega) (q_pk0 hP (by have e9 : j = N := (by omega); rw [q_sel1 (q_mono hA.mo) (q_pdlt hA.d) h_39]; simp [h_147])) _ _ hW hS _ (lv_sub hl [2, 3, 1, 4, 5, 0] rfl)
                          · refine lv_iload hx hb dL_promised_150 (lv_at hl 8 rfl) ?_
                            refine k_ifz_eq (tgt := 172) hx hb dL_promised_152 (by decide) (fun h_152 => ?_) (fun h_152 => ?_)
                            · refine lv_iconst (v := nI 0) hx hb dL_promised_172 (by decide) ?_
                              refine lv_ior hx hb dL_promised_173 ?_
                              refine k_toi (y := kB Pm) (kB_or0 Pm) ?_
                              refine lv_istore_n (lv' := [(2, .int (kB Pm)), (0, .ref (ad 9 0)), (1, .ref (ad 12 0)), (3, .int (nI 2)), (4, .int (nI 28)), (5, .int (nI k)), (6, .int (nI tm)), (7, .int lt), (8, .int (kb lo)), (9, .int (nI j))]) hx hb dL_promised_174 rfl hl (by decide) rfl (fun ls hl => ?_)
                              refine lv_iinc (v := nI (k + 1)) (lv' := [(5, .int (nI (k + 1))), (2, .int (kB Pm)), (0, .ref (ad 9 0)), (1, .ref (ad 12 0)), (3, .int (nI 2)), (4, .int (nI 28)), (6, .int (nI tm)), (7, .int lt), (8, .int (kb lo)), (9, .int (nI j))]) hx hb dL_promised_175 hl (k := 5) rfl (nI_add _ _) (by decide) rfl (fun ls hl => ?_)
                              refine lv_goto (tgt := 34) hx hb dL_promised_178 (by decide) ?_
                              exact ih (k + 1) (Pm) (by omega) (by omega) (q_pk0 hP (by have e9 : j = N := (by omega); rw [q_sel1 (q_mono hA.mo) (q_pdlt hA.d) h_39]; rw [← e9, ← hlo, ← htm]; simp [h_152])) _ _ hW hS _ (lv_sub hl [2, 3, 1, 4, 5, 0] rfl)
                            · refine lv_iload hx hb dL_promised_155 (lv_at hl 6 rfl) ?_
                              refine lv_aload_n hx hb dL_promised_157 rfl (lv_at hl 1 rfl) ?_
                              refine lv_iconst (v := nI 5) hx hb dL_promised_158 (by decide) ?_
                              refine lv_iload_n hx hb dL_promised_159 rfl (lv_at hl 3 rfl) ?_
                              refine k_iadd hx hb dL_promised_160 ?_
                              refine k_iald hx hb hK hW (kc_12 g ad t) (5 + 2) rfl (by omega) (by decide) dL_promised_161 ?_
                              refine k_toi (y := nI r3) hR.m7 ?_
                              refine k_icmp_ge (tgt := 172) hx hb (a := tm) (b := r3) (by have : tm ≤ j := htm ▸ q_tmle j; omega) (by have := hR.b1; have := hR.b2; have := hR.b3; omega) dL_promised_162 (by decide) (fun h_162 => ?_) (fun h_162 => ?_)
                              · refine lv_iconst (v := nI 0) hx hb dL_promised_172 (by decide) ?_
                                refine lv_ior hx hb dL_promised_173 ?_
                                refine k_toi (y := kB Pm) (kB_or0 Pm) ?_
                                refine lv_istore_n (lv' := [(2, .int (kB Pm)), (0, .ref (ad 9 0)), (1, .ref (ad 12 0)), (3, .int (nI 2)), (4, .int (nI 28)), (5, .int (nI k)), (6, .int (nI tm)), (7, .int lt), (8, .int (kb lo)), (9, .int (nI j))]) hx hb dL_promised_174 rfl hl (by decide) rfl (fun ls hl => ?_)
                                refine lv_iinc (v := nI (k + 1)) (lv' := [(5, .int (nI (k + 1))), (2, .int (kB Pm)), (0, .ref (ad 9 0)), (1, .ref (ad 12 0)), (3, .int (nI 2)), (4, .int (nI 28)), (6, .int (nI tm)), (7, .int lt), (8, .int (kb lo)), (9, .int (nI j))]) hx hb dL_promised_175 hl (k := 5) rfl (nI_add _ _) (by decide) rfl (fun ls hl => ?_)
                                refine lv_goto (tgt := 34) hx hb dL_promised_178 (by decide) ?_
                                exact ih (k + 1) (Pm) (by omega) (by omega) (q_pk0 hP (by have e9 : j = N := (by omega); rw [q_sel1 (q_mono hA.mo) (q_pdlt hA.d) h_39]; rw [← e9, ← hlo, ← htm]; simp [h_162])) _ _ hW hS _ (lv_sub hl [2, 3, 1, 4, 5, 0] rfl)
                              · refine lv_iconst (v := nI 1) hx hb dL_promised_165 (by decide) ?_
                                refine lv_iload hx hb dL_promised_166 (lv_at hl 5 rfl) ?_
                                refine lv_ishl hx hb dL_promised_168 ?_
                                refine lv_goto (tgt := 173) hx hb dL_promised_169 (by decide) ?_
                                refine lv_ior hx hb dL_promised_173 ?_
                                refine k_toi (y := kB (va_up Pm k true)) (kB_set Pm (by omega)) ?_
                                refine lv_istore_n (lv' := [(2, .int (kB (va_up Pm k true))), (0, .ref (ad 9 0)), (1, .ref (ad 12 0)), (3, .int (nI 2)), (4, .int (nI 28)), (5, .int (nI k)), (6, .int (nI tm)), (7, .int lt), (8, .int (kb lo)), (9, .int (nI j))]) hx hb dL_promised_174 rfl hl (by decide) rfl (fun ls hl => ?_)
                                refine lv_iinc (v := nI (k + 1)) (lv' := [(5, .int (nI (k + 1))), (2, .int (kB (va_up Pm k true))), (0, .ref (ad 9 0)), (1, .ref (ad 12 0)), (3, .int (nI 2)), (4, .int (nI 28)), (6, .int (nI tm)), (7, .int lt), (8, .int (kb lo)), (9, .int (nI j))]) hx hb dL_promised_175 hl (k := 5) rfl (nI_add _ _) (by decide) rfl (fun ls hl => ?_)
                                refine lv_goto (tgt := 34) hx hb dL_promised_178 (by decide) ?_
                                exact ih (k + 1) (va_up Pm k true) (by omega) (by omega) (q_pk hP (by have e9 : j = N := (by omega); rw [q_sel1 (q_mono hA.mo) (q_pdlt hA.d) h_39, ← e9, ← hlo, ← htm]; simp [h_147, h_152, h_162])) _ _ hW hS _ (lv_sub hl [2, 3, 1, 4, 5, 0] rfl)
                        · refine lv_aload_n hx hb dL_promised_65 rfl (lv_at hl 1 rfl) ?_
                          refine lv_iconst (v := nI 2) hx hb dL_promised_66 (by decide) ?_
                          refine k_iald hx hb hK hW (kc_12 g ad t) 2 rfl (by omega) (by decide) dL_promised_67 ?_
                          refine k_toi (y := kB th) hA.m2 ?_
                          refine lv_iload hx hb dL_promised_68 (lv_at hl 9 rfl) ?_
                          refine lv_ishr hx hb dL_promised_70 ?_
                          refine lv_iconst (v := nI 1) hx hb dL_promised_71 (by decide) ?_
                          refine lv_iand hx hb dL_promised_72 ?_
                          refine k_toi (y := kb (th j)) (kB_bit th (by omega)) ?_
                          refine lv_iconst (v := nI 1) hx hb dL_promised_73 (by decide) ?_
                          refine k_b1_ne (tgt := 131) hx hb dL_promised_74 (by decide) (fun h_74 => ?_) (fun h_74 => ?_)
                          · refine lv_iinc (v := nI (j + 1)) (lv' := [(9, .int (nI (j + 1))), (0, .ref (ad 9 0)), (1, .ref (ad 12 0)), (2, .int (kB Pm)), (3, .int (nI 2)), (4, .int (nI 28)), (5, .int (nI k)), (6, .int (nI tm)), (7, .int lt), (8, .int (kb lo))]) hx hb dL_promised_131 hl (k := 9) rfl (nI_add _ _) (by decide) rfl (fun ls hl => ?_)
                            refine lv_goto (tgt := 57) hx hb dL_promised_134 (by decide) ?_
                            exact ih_57 (j + 1) tm lt lo (by omega) (by omega) (by omega) (htm.trans (q_s1 h_74).2.1.symm) (hlt9.trans (q_s1 h_74).1.symm) (hlo.trans (q_s1 h_74).2.2.symm) _ _ hW hS _ (lv_sub hl [1, 2, 3, 4, 5, 6, 7, 8, 9, 0] rfl)
                          · refine lv_aload_n hx hb dL_promised_77 rfl (lv_at hl 0 rfl) ?_
                            refine lv_iload hx hb dL_promised_78 (lv_at hl 9 rfl) ?_
                            refine k_iald hx hb hK hW (kc_9 g ad t) j rfl (by omega) (by decide) dL_promised_80 ?_
                            refine k_toi (y := nI (on j)) (hA.x0 j (by omega)) ?_
                            refine lv_iload hx hb dL_promised_81 (lv_at hl 4 rfl) ?_
                            refine lv_idiv hx hb dL_promised_83 (by decide) ?_
                            refine k_toi (pk_div (by have := hA.d j (by omega); omega) (by decide) (by decide)) ?_
                            refine lv_istore (lv' := [(10, .int (nI ((on j) / 28))), (0, .ref (ad 9 0)), (1, .ref (ad 12 0)), (2, .int (kB Pm)), (3, .int (nI 2)), (4, .int (nI 28)), (5, .int (nI k)), (6, .int (nI tm)), (7, .int lt), (8, .int (kb lo)), (9, .int (nI j))]) hx hb dL_promised_84 hl (by decide) rfl (fun ls hl => ?_)
                            refine lv_iload hx hb dL_promised_86 (lv_at hl 9 rfl) ?_
                            refine k_ifz_eq (tgt := 107) hx hb dL_promised_88 (by decide) (fun h_88 => ?_) (fun h_88 => ?_)
                            · refine lv_iconst (v := nI 0) hx hb dL_promised_107 (by decide) ?_
                              refine lv_istore (lv' := [(8, .int (nI 0)), (10, .int (nI ((on j) / 28))), (0, .ref (ad 9 0)), (1, .ref (ad 12 0)), (2, .int (kB Pm)), (3, .int (nI 2)), (4, .int (nI 28)), (5, .int (nI k)), (6, .int (nI tm)), (7, .int lt), (9, .int (nI j))]) hx hb dL_promised_108 hl (by decide) rfl (fun ls hl => ?_)
                              refine lv_iload hx hb dL_promised_110 (lv_at hl 8 rfl) ?_
                              refine lv_iload hx hb dL_promised_112 (lv_at hl 1 rfl) ?_
                              refine lv_iload hx hb dL_promised_114 (lv_at hl 9 rfl) ?_
                              refine lv_icmp_eq (tgt := 123) hx hb dL_promised_116 (by decide) (fun h_116 => ?_) (fun h_116 => ?_)
                              · refine lv_iconst (v := nI 0) hx hb dL_promised_123 (by decide) ?_
                                refine k_iadd hx hb dL_promised_124 ?_
                                refine lv_istore (lv' := [(6, .int (nI (tm + 0))), (8, .int (nI 0)), (10, .int (nI ((on j) / 28))), (0, .ref (ad 9 0)), (1, .ref (ad 12 0)), (2, .int (kB Pm)), (3, .int (nI 2)), (4, .int (nI 28)), (5, .int (nI k)), (7, .int lt), (9, .int (nI j))]) hx hb dL_promised_125 hl (by decide) rfl (fun ls hl => ?_)
                                refine lv_iload hx hb dL_promised_127 (lv_at hl 2 rfl) ?_
                                refine lv_istore (lv' := [(7, .int (nI ((on j) / 28))), (6, .int (nI (tm + 0))), (8, .int (nI 0)), (10, .int (nI ((on j) / 28))), (0, .ref (ad 9 0)), (1, .ref (ad 12 0)), (2, .int (kB Pm)), (3, .int (nI 2)), (4, .int (nI 28)), (5, .int (nI k)), (9, .int (nI j))]) hx hb dL_promised_129 hl (by decide) rfl (fun ls hl => ?_)
                                refine lv_iinc (v := nI (j + 1)) (lv' := [(9, .int (nI (j + 1))), (7, .int (nI ((on j) / 28))), (6, .int (nI (tm + 0))), (8, .int (nI 0)), (10, .int (nI ((on j) / 28))), (0, .ref (ad 9 0)), (1, .ref (ad 12 0)), (2, .int (kB Pm)), (3, .int (nI 2)), (4, .int (nI 28)), (5, .int (nI k))]) hx hb dL_promised_131 hl (k := 10) rfl (nI_add _ _) (by decide) rfl (fun ls hl => ?_)
                                refine lv_goto (tgt := 57) hx hb dL_promised_134 (by decide) ?_
                                exact ih_57 (j + 1) (tm + 0) (nI ((on j) / 28)) false (by omega) (by omega) (by omega) (q_stm0 (by omega) h_74 htm hlt9 h_116) (q_slt (pd := (fun q => on q / 28)) (by omega) h_74).symm (q_slo (by omega) h_74 hlo (by simp [h_88])) _ _ hW hS _ (lv_sub hl [5, 6, 7, 8, 9, 10, 2, 1, 3, 0] rfl)
                              · refine lv_iconst (v := nI 1) hx hb dL_promised_119 (by decide) ?_
                                refine lv_goto (tgt := 124) hx hb dL_promised_120 (by decide) ?_
                                refine k_iadd hx hb dL_promised_124 ?_
                                refine lv_istore (lv' := [(6, .int (nI (tm + 1))), (8, .int (nI 0)), (10, .int (nI ((on j) / 28))), (0, .ref (ad 9 0)), (1, .ref (ad 12 0)), (2, .int (kB Pm)), (3, .int (nI 2)), (4, .int (nI 28)), (5, .int (nI k)), (7, .int lt), (9, .int (nI j))]) hx hb dL_promised_125 hl (by decide) rfl (fun ls hl => ?_)
                                refine lv_iload hx hb dL_promised_127 (lv_at hl 2 rfl) ?_
                                refine lv_istore (lv' := [(7, .int (nI ((on j) / 28))), (6, .int (nI (tm + 1))), (8, .int (nI 0)), (10, .int (nI ((on j) / 28))), (0, .ref (ad 9 0)), (1, .ref (ad 12 0)), (2, .int (kB Pm)), (3, .int (nI 2)), (4, .int (nI 28)), (5, .int (nI k)), (9, .int (nI j))]) hx hb dL_promised_129 hl (by decide) rfl (fun ls hl => ?_)
                                refine lv_iinc (v := nI (j + 1)) (lv' := [(9, .int (nI (j + 1))), (7, .int (nI ((on j) / 28))), (6, .int (nI (tm + 1))), (8, .int (nI 0)), (10, .int (nI ((on j) / 28))), (0, .ref (ad 9 0)), (1, .ref (ad 12 0)), (2, .int (kB Pm)), (3, .int (nI 2)), (4, .int (nI 28)), (5, .int (nI k))]) hx hb dL_promised_131 hl (k := 10) rfl (nI_add _ _) (by decide) rfl (fun ls hl => ?_)
                                refine lv_goto (tgt := 57) hx hb dL_promised_134 (by decide) ?_
                                exact ih_57 (j + 1) (tm + 1) (nI ((on j) / 28)) false (by omega) (by omega) (by omega) (q_stm (by omega) h_74 htm hlt9 h_116) (q_slt (pd := (fun q => on q / 28)) (by omega) h_74).symm (q_slo (by omega) h_74 hlo (by simp [h_88])) _ _ hW hS _ (lv_sub hl [5, 6, 7, 8, 9, 10, 2, 1, 3, 0] rfl)
                            · refine lv_iload hx hb dL_promised_91 (lv_at hl 0 rfl) ?_
                              refine lv_aload_n hx hb dL_promised_93 rfl (lv_at hl 1 rfl) ?_
                              refine lv_iload hx hb dL_promised_94 (lv_at hl 6 rfl) ?_
                              refine k_iald hx hb hK hW (kc_9 g ad t) k rfl (by omega) (by decide) dL_promised_96 ?_
                              refine k_toi (y := nI (on k)) (hA.x0 k (by omega)) ?_
                              refine lv_iload hx hb dL_promised_97 (lv_at hl 5 rfl) ?_
                              refine lv_idiv hx hb dL_promised_99 (by decide) ?_
                              refine k_toi (pk_div (by have := hA.d k (by omega); omega) (by decide) (by decide)) ?_
                              refine k_icmp_eq (tgt := 107) hx hb (a := (on j) / 28) (b := (on k) / 28) (by have := hA.d j (by omega); have := Nat.div_le_self (on j) 1; have := Nat.div_le_self (on j) 7; have := Nat.div_le_self (on j) 28; omega) (by have := hA.d k (by omega); have := Nat.div_le_self (on k) 1; have := Nat.div_le_self (on k) 7; have := Nat.div_le_self (on k) 28; omega) dL_promised_100 (by decide) (fun h_100 => ?_) (fun h_100 => ?_)
                              · refine lv_iconst (v := nI 0) hx hb dL_promised_107 (by decide) ?_
                                refine lv_istore (lv' := [(8, .int (nI 0)), (10, .int (nI ((on j) / 28))), (0, .ref (ad 9 0)), (1, .ref (ad 12 0)), (2, .int (kB Pm)), (3, .int (nI 2)), (4, .int (nI 28)), (5, .int (nI k)), (6, .int (nI tm)), (7, .int lt), (9, .int (nI j))]) hx hb dL_promised_108 hl (by decide) rfl (fun ls hl => ?_)
                                refine lv_iload hx hb dL_promised_110 (lv_at hl 8 rfl) ?_
                                refine lv_iload hx hb dL_promised_112 (lv_at hl 1 rfl) ?_
                                refine lv_iload hx hb dL_promised_114 (lv_at hl 9 rfl) ?_
                                refine lv_icmp_eq (tgt := 123) hx hb dL_promised_116 (by decide) (fun h_116 => ?_) (fun h_116 => ?_)
                                · refine lv_iconst (v := nI 0) hx hb dL_promised_123 (by decide) ?_
                                  refine k_iadd hx hb dL_promised_124 ?_
                                  refine lv_istore (lv' := [(6, .int (nI (tm + 0))), (8, .int (nI 0)), (10, .int (nI ((on j) / 28))), (0, .ref (ad 9 0)), (1, .ref (ad 12 0)), (2, .int (kB Pm)), (3, .int (nI 2)), (4, .int (nI 28)), (5, .int (nI k)), (7, .int lt), (9, .int (nI j))]) hx hb dL_promised_125 hl (by decide) rfl (fun ls hl => ?_)
                                  refine lv_iload hx hb dL_promised_127 (lv_at hl 2 rfl) ?_
                                  refine lv_istore (lv' := [(7, .int (nI ((on j) / 28))), (6, .int (nI (tm + 0))), (8, .int (nI 0)), (10, .int (nI ((on j) / 28))), (0, .ref (ad 9 0)), (1, .ref (ad 12 0)), (2, .int (kB Pm)), (3, .int (nI 2)), (4, .int (nI 28)), (5, .int (nI k)), (9, .int (nI j))]) hx hb dL_promised_129 hl (by decide) rfl (fun ls hl => ?_)
                                  refine lv_iinc (v := nI (j + 1)) (lv' := [(9, .int (nI (j + 1))), (7, .int (nI ((on j) / 28))), (6, .int (nI (tm + 0))), (8, .int (nI 0)), (10, .int (nI ((on j) / 28))), (0, .ref (ad 9 0)), (1, .ref (ad 12 0)), (2, .int (kB Pm)), (3, .int (nI 2)), (4, .int (nI 28)), (5, .int (nI k))]) hx hb dL_promised_131 hl (k := 10) rfl (nI_add _ _) (by decide) rfl (fun ls hl => ?_)
                                  refine lv_goto (tgt := 57) hx hb dL_promised_134 (by decide) ?_
                                  exact ih_57 (j + 1) (tm + 0) (nI ((on j) / 28)) false (by omega) (by omega) (by omega) (q_stm0 (by omega) h_74 htm hlt9 h_116) (q_slt (pd := (fun q => on q / 28)) (by omega) h_74).symm (q_slo (by omega) h_74 hlo (by rw [h_88, Bool.true_and]; exact (decide_eq_false (fun q => q h_100)).symm)) _ _ hW hS _ (lv_sub hl [5, 6, 7, 8, 9, 10, 2, 1, 3, 0] rfl)
                                · refine lv_iconst (v := nI 1) hx hb dL_promised_119 (by decide) ?_
                                  refine lv_goto (tgt := 124) hx hb dL_promised_120 (by decide) ?_
                                  refine k_iadd hx hb dL_promised_124 ?_
                                  refine lv_istore (lv' := [(6, .int (nI (tm + 1))), (8, .int (nI 0)), (10, .int (nI ((on j) / 28))), (0, .ref (ad 9 0)), (1, .ref (ad 12 0)), (2, .int (kB Pm)), (3, .int (nI 2)), (4, .int (nI 28)), (5, .int (nI k)), (7, .int lt), (9, .int (nI j))]) hx hb dL_promised_125 hl (by decide) rfl (fun ls hl => ?_)
                                  refine lv_iload hx hb dL_promised_127 (lv_at hl 2 rfl) ?_
                                  refine lv_istore (lv' := [(7, .int (nI ((on j) / 28))), (6, .int (nI (tm + 1))), (8, .int (nI 0)), (10, .int (nI ((on j) / 28))), (0, .ref (ad 9 0)), (1, .ref (ad 12 0)), (2, .int (kB Pm)), (3, .int (nI 2)), (4, .int (nI 28)), (5, .int (nI k)), (9, .int (nI j))]) hx hb dL_promised_129 hl (by decide) rfl (fun ls hl => ?_)
                                  refine lv_iinc (v := nI (j + 1)) (lv' := [(9, .int (nI (j + 1))), (7, .int (nI ((on j) / 28))), (6, .int (nI (tm + 1))), (8, .int (nI 0)), (10, .int (nI ((on j) / 28))), (0, .ref (ad 9 0)), (1, .ref (ad 12 0)), (2, .int (kB Pm)), (3, .int (nI 2)), (4, .int (nI 28)), (5, .int (nI k))]) hx hb dL_promised_131 hl (k := 10) rfl (nI_add _ _) (by decide) rfl (fun ls hl => ?_)
                                  refine lv_goto (tgt := 57) hx hb dL_promised_134 (by decide) ?_
                                  exact ih_57 (j + 1) (tm + 1) (nI ((on j) / 28)) false (by omega) (by omega) (by omega) (q_stm (by omega) h_74 htm hlt9 h_116) (q_slt (pd := (fun q => on q / 28)) (by omega) h_74).symm (q_slo (by omega) h_74 hlo (by rw [h_88, Bool.true_and]; exact (decide_eq_false (fun q => q h_100)).symm)) _ _ hW hS _ (lv_sub hl [5, 6, 7, 8, 9, 10, 2, 1, 3, 0] rfl)
                              · refine lv_iconst (v := nI 1) hx hb dL_promised_103 (by decide) ?_
                                refine lv_goto (tgt := 108) hx hb dL_promised_104 (by decide) ?_
                                refine lv_istore (lv' := [(8, .int (nI 1)), (10, .int (nI ((on j) / 28))), (0, .ref (ad 9 0)), (1, .ref (ad 12 0)), (2, .int (kB Pm)), (3, .int (nI 2)), (4, .int (nI 28)), (5, .int (nI k)), (6, .int (nI tm)), (7, .int lt), (9, .int (nI j))]) hx hb dL_promised_108 hl (by decide) rfl (fun ls hl => ?_)
                                refine lv_iload hx hb dL_promised_110 (lv_at hl 8 rfl) ?_
                                refine lv_iload hx hb dL_promised_112 (lv_at hl 1 rfl) ?_
                                refine lv_iload hx hb dL_promised_114 (lv_at hl 9 rfl) ?_
                                refine lv_icmp_eq (tgt := 123) hx hb dL_promised_116 (by decide) (fun h_116 => ?_) (fun h_116 => ?_)
                                · refine lv_iconst (v := nI 0) hx hb dL_promised_123 (by decide) ?_
                                  refine k_iadd hx hb dL_promised_124 ?_
                                  refine lv_istore (lv' := [(6, .int (nI (tm + 0))), (8, .int (nI 1)), (10, .int (nI ((on j) / 28))), (0, .ref (ad 9 0)), (1, .ref (ad 12 0)), (2, .int (kB Pm)), (3, .int (nI 2)), (4, .int (nI 28)), (5, .int (nI k)), (7, .int lt), (9, .int (nI j))]) hx hb dL_promised_125 hl (by decide) rfl (fun ls hl => ?_)
                                  refine lv_iload hx hb dL_promised_127 (lv_at hl 2 rfl) ?_
                                  refine lv_istore (lv' := [(7, .int (nI ((on j) / 28))), (6, .int (nI (tm + 0))), (8, .int (nI 1)), (10, .int (nI ((on j) / 28))), (0, .ref (ad 9 0)), (1, .ref (ad 12 0)), (2, .int (kB Pm)), (3, .int (nI 2)), (4, .int (nI 28)), (5, .int (nI k)), (9, .int (nI j))]) hx hb dL_promised_129 hl (by decide) rfl (fun ls hl => ?_)
                                  refine lv_iinc (v := nI (j + 1)) (lv' := [(9, .int (nI (j + 1))), (7, .int (nI ((on j) / 28))), (6, .int (nI (tm + 0))), (8, .int (nI 1)), (10, .int (nI ((on j) / 28))), (0, .ref (ad 9 0)), (1, .ref (ad 12 0)), (2, .int (kB Pm)), (3, .int (nI 2)), (4, .int (nI 28)), (5, .int (nI k))]) hx hb dL_promised_131 hl (k := 10) rfl (nI_add _ _) (by decide) rfl (fun ls hl => ?_)
                                  refine lv_goto (tgt := 57) hx hb dL_promised_134 (by decide) ?_
                                  exact ih_57 (j + 1) (tm + 0) (nI ((on j) / 28)) true (by omega) (by omega) (by omega) (q_stm0 (by omega) h_74 htm hlt9 h_116) (q_slt (pd := (fun q => on q / 28)) (by omega) h_74).symm (q_slo (by omega) h_74 hlo (by rw [h_88, Bool.true_and]; exact (decide_eq_true h_100).symm)) _ _ hW hS _ (lv_sub hl [5, 6, 7, 8, 9, 10, 2, 1, 3, 0] rfl)
                                · refine lv_iconst (v := nI 1) hx hb dL_promised_119 (by decide) ?_
                                  refine lv_goto (tgt := 124) hx hb dL_promised_120 (by decide) ?_
                                  refine k_iadd hx hb dL_promised_124 ?_
                                  refine lv_istore (lv' := [(6, .int (nI (tm + 1))), (8, .int (nI 1)), (10, .int (nI ((on j) / 28))), (0, .ref (ad 9 0)), (1, .ref (ad 12 0)), (2, .int (kB Pm)), (3, .int (nI 2)), (4, .int (nI 28)), (5, .int (nI k)), (7, .int lt), (9, .int (nI j))]) hx hb dL_promised_125 hl (by decide) rfl (fun ls hl => ?_)
                                  refine lv_iload hx hb dL_promised_127 (lv_at hl 2 rfl) ?_
                                  refine lv_istore (lv' := [(7, .int (nI ((on j) / 28))), (6, .int (nI (tm + 1))), (8, .int (nI 1)), (10, .int (nI ((on j) / 28))), (0, .ref (ad 9 0)), (1, .ref (ad 12 0)), (2, .int (kB Pm)), (3, .int (nI 2)), (4, .int (nI 28)), (5, .int (nI k)), (9, .int (nI j))]) hx hb dL_promised_129 hl (by decide) rfl (fun ls hl => ?_)
                                  refine lv_iinc (v := nI (j + 1)) (lv' := [(9, .int (nI (j + 1))), (7, .int (nI ((on j) / 28))), (6, .int (nI (tm + 1))), (8, .int (nI 1)), (10, .int (nI ((on j) / 28))), (0, .ref (ad 9 0)), (1, .ref (ad 12 0)), (2, .int (kB Pm)), (3, .int (nI 2)), (4, .int (nI 28)), (5, .int (nI k))]) hx hb dL_promised_131 hl (k := 10) rfl (nI_add _ _) (by decide) rfl (fun ls hl => ?_)
                                  refine lv_goto (tgt := 57) hx hb dL_promised_134 (by decide) ?_
                                  exact ih_57 (j + 1) (tm + 1) (nI ((on j) / 28)) true (by omega) (by omega) (by omega) (q_stm (by omega) h_74 htm hlt9 h_116) (q_slt (pd := (fun q => on q / 28)) (by omega) h_74).symm (q_slo (by omega) h_74 hlo (by rw [h_88, Bool.true_and]; exact (decide_eq_true h_100).symm)) _ _ hW hS _ (lv_sub hl [5, 6, 7, 8, 9, 10, 2, 1, 3, 0] rfl)
                    exact hloop_57 (N + 1) (k + 1) 0 (-1) true (by omega) (by omega) (by omega) (q_in _ (Nat.le_refl _)).2.1.symm (q_in _ (Nat.le_refl _)).1.symm (q_in _ (Nat.le_refl _)).2.2.symm _ _ hW hS _ (lv_sub hl [4, 5, 6, 7, 8, 9, 3, 2, 1, 0] rfl)
              exact hloop_34 (N + 1) 0 (fun j => ((false || k_sel th (fun q => on q / 1) N r1 (-1) j) || k_sel th (fun q => on q / 7) N r2 (-1) j)) (by omega) (Nat.zero_le _) q_pk_in _ _ hW hS _ (lv_sub hl [3, 4, 5, 2, 1, 0] rfl)
            · refine lv_iconst (v := nI 0) hx hb dL_promised_42 (by decide) ?_
              refine lv_istore (lv' := [(6, .int (nI 0)), (0, .ref (ad 9 0)), (1, .ref (ad 12 0)), (2, .int (kB Pm)), (3, .int (nI 1)), (4, .int (nI 7)), (5, .int (nI k))]) hx hb dL_promised_43 hl (by decide) rfl (fun ls hl => ?_)
              refine lv_iconst (v := (-1)) hx hb dL_promised_45 (by decide) ?_
              refine lv_istore (lv' := [(7, .int (-1)), (6, .int (nI 0)), (0, .ref (ad 9 0)), (1, .ref (ad 12 0)), (2, .int (kB Pm)), (3, .int (nI 1)), (4, .int (nI 7)), (5, .int (nI k))]) hx hb dL_promised_46 hl (by decide) rfl (fun ls hl => ?_)
              refine lv_iconst (v := nI 1) hx hb dL_promised_48 (by decide) ?_
              refine lv_istore (lv' := [(8, .int (nI 1)), (7, .int (-1)), (6, .int (nI 0)), (0, .ref (ad 9 0)), (1, .ref (ad 12 0)), (2, .int (kB Pm)), (3, .int (nI 1)), (4, .int (nI 7)), (5, .int (nI k))]) hx hb dL_promised_49 hl (by decide) rfl (fun ls hl => ?_)
              refine lv_iload hx hb dL_promised_51 (lv_at hl 8 rfl) ?_
              refine lv_iconst (v := nI 1) hx hb dL_promised_53 (by decide) ?_
              refine k_iadd hx hb dL_promised_54 ?_
              refine lv_istore (lv' := [(9, .int (nI (k + 1))), (8, .int (nI 1)), (7, .int (-1)), (6, .int (nI 0)), (0, .ref (ad 9 0)), (1, .ref (ad 12 0)), (2, .int (kB Pm)), (3, .int (nI 1)), (4, .int (nI 7)), (5, .int (nI k))]) hx hb dL_promised_55 hl (by decide) rfl (fun ls hl => ?_)
              have hloop_57 : ∀ (n : Nat) (j : Nat) (tm : Nat) (lt : Int32) (lo : Bool), (N < j + n) → (k < j) → (j ≤ N) → (tm = q_tm th (fun q => on q / 7) k j) → (lt = q_lt th (fun q => on q / 7) k j) → (lo = q_lo th (fun q => on q / 7) k j) → ∀ (H : Heap) (locs : List Loc), k_H g ad t H → va_S (k_A g) s.heap H locs → ∀ (ls : Array Slot), lv_has ls 11 [(0, .ref (ad 9 0)), (1, .ref (ad 12 0)), (2, .int (kB Pm)), (3, .int (nI 1)), (4, .int (nI 7)), (5, .int (nI k)), (6, .int (nI tm)), (7, .int lt), (8, .int (kb lo)), (9, .int (nI j))] → W p l e rm_L_promised s m args below meth c H locs 0 0 Q (F0 m 57 ls []) := by
                intro n
                induction n with
                | zero =>
                  intro j tm lt lo hfu2 hkj hjN htm hlt9 hlo
                  exact absurd hfu2 (by omega)
                | succ n ih_57 =>
                  intro j tm lt lo hfu2 hkj hjN htm hlt9 hlo H locs hW hS ls hl
                  refine lv_iload hx hb dL_promised_57 (lv_at hl 9 rfl) ?_
                  refine lv_aload_n hx hb dL_promised_59 rfl (lv_at hl 1 rfl) ?_
                  refine lv_iconst (v := nI 0) hx hb dL_promised_60 (by decide) ?_
                  refine k_iald hx hb hK hW (kc_12 g ad t) 0 rfl (by omega) (by decide) dL_promised_61 ?_
                  refine k_toi (y := nI N) hA.m0 ?_
                  refine k_icmp_ge (tgt := 137) hx hb (a := j) (b := N) (by omega) (by omega) dL_promised_62 (by decide) (fun h_62 => ?_) (fun h_62 => ?_)
                  · refine lv_iload_n hx hb dL_promised_137 rfl (lv_at hl 2 rfl) ?_
                    refine lv_aload_n hx hb dL_promised_138 rfl (lv_at hl 1 rfl) ?_
                    refine lv_iconst (v := nI 2) hx hb dL_promised_139 (by decide) ?_
                    refine k_iald hx hb hK hW (kc_12 g ad t) 2 rfl (by omega) (by decide) dL_promised_140 ?_
                    refine k_toi (y := kB th) hA.m2 ?_
                    refine lv_iload hx hb dL_promised_141 (lv_at hl 5 rfl) ?_
                    refine lv_ishr hx hb dL_promised_143 ?_
                    refine lv_iconst (v := nI 1) hx hb dL_promised_144 (by decide) ?_
                    refine lv_iand hx hb dL_promised_145 ?_
                    refine k_toi (y := kb (th k)) (kB_bit th (by omega)) ?_
                    refine lv_iconst (v := nI 1) hx hb dL_promised_146 (by decide) ?_
                    refine k_b1_ne (tgt := 172) hx hb dL_promised_147 (by decide) (fun h_147 => ?_) (fun h_147 => ?_)
                    · refine lv_iconst (v := nI 0) hx hb dL_promised_172 (by decide) ?_
                      refine lv_ior hx hb dL_promised_173 ?_
                      refine k_toi (y := kB Pm) (kB_or0 Pm) ?_
                      refine lv_istore_n (lv' := [(2, .int (kB Pm)), (0, .ref (ad 9 0)), (1, .ref (ad 12 0)), (3, .int (nI 1)), (4, .int (nI 7)), (5, .int (nI k)), (6, .int (nI tm)), (7, .int lt), (8, .int (kb lo)), (9, .int (nI j))]) hx hb dL_promised_174 rfl hl (by decide) rfl (fun ls hl => ?_)
                      refine lv_iinc (v := nI (k + 1)) (lv' := [(5, .int (nI (k + 1))), (2, .int (kB Pm)), (0, .ref (ad 9 0)), (1, .ref (ad 12 0)), (3, .int (nI 1)), (4, .int (nI 7)), (6, .int (nI tm)), (7, .int lt), (8, .int (kb lo)), (9, .int (nI j))]) hx hb dL_promised_175 hl (k := 5) rfl (nI_add _ _) (by decide) rfl (fun ls hl => ?_)
                      refine lv_goto (tgt := 34) hx hb dL_promised_178 (by decide) ?_
                      exact ih (k + 1) (Pm) (by omega) (by omega) (q_pk0 hP (by have e9 : j = N := (by omega); rw [q_sel1 (q_mono hA.mo) (q_pdlt hA.d) h_39]; simp [h_147])) _ _ hW hS _ (lv_sub hl [2, 3, 1, 4, 5, 0] rfl)
                    · refine lv_iload hx hb dL_promised_150 (lv_at hl 8 rfl) ?_
                      refine k_ifz_eq (tgt := 172) hx hb dL_promised_152 (by decide) (fun h_152 => ?_) (fun h_152 => ?_)
                      · refine lv_iconst (v := nI 0) hx hb dL_promised_172 (by decide) ?_
                        refine lv_ior hx hb dL_promised_173 ?_
                        refine k_toi (y := kB Pm) (kB_or0 Pm) ?_
                        refine lv_istore_n (lv' := [(2, .int (kB Pm)), (0, .ref (ad 9 0)), (1, .ref (ad 12 0)), (3, .int (nI 1)), (4, .int (nI 7)), (5, .int (nI k)), (6, .int (nI tm)), (7, .int lt), (8, .int (kb lo)), (9, .int (nI j))]) hx hb dL_promised_174 rfl hl (by decide) rfl (fun ls hl => ?_)
                        refine lv_iinc (v := nI (k + 1)) (lv' := [(5, .int (nI (k + 1))), (2, .int (kB Pm)), (0, .ref (ad 9 0)), (1, .ref (ad 12 0)), (3, .int (nI 1)), (4, .int (nI 7)), (6, .int (nI tm)), (7, .int lt), (8, .int (kb lo)), (9, .int (nI j))]) hx hb dL_promised_175 hl (k := 5) rfl (nI_add _ _) (by decide) rfl (fun ls hl => ?_)
                        refine lv_goto (tgt := 34) hx hb dL_promised_178 (by decide) ?_
                        exact ih (k + 1) (Pm) (by omega) (by omega) (q_pk0 hP (by have e9 : j = N := (by omega); rw [q_sel1 (q_mono hA.mo) (q_pdlt hA.d) h_39]; rw [← e9, ← hlo, ← htm]; simp [h_152])) _ _ hW hS _ (lv_sub hl [2, 3, 1, 4, 5, 0] rfl)
                      · refine lv_iload hx hb dL_promised_155 (lv_at hl 6 rfl) ?_
                        refine lv_aload_n hx hb dL_promised_157 rfl (lv_at hl 1 rfl) ?_
                        refine lv_iconst (v := nI 5) hx hb dL_promised_158 (by decide) ?_
                        refine lv_iload_n hx hb dL_promised_159 rfl (lv_at hl 3 rfl) ?_
                        refine k_iadd hx hb dL_promised_160 ?_
                        refine k_iald hx hb hK hW (kc_12 g ad t) (5 + 1) rfl (by omega) (by decide) dL_promised_161 ?_
                        refine k_toi (y := nI r2) hR.m6 ?_
                        refine k_icmp_ge (tgt := 172) hx hb (a := tm) (b := r2) (by have : tm ≤ j := htm ▸ q_tmle j; omega) (by have := hR.b1; have := hR.b2; have := hR.b3; omega) dL_promised_162 (by decide) (fun h_162 => ?_) (fun h_162 => ?_)
                        · refine lv_iconst (v := nI 0) hx hb dL_promised_172 (by decide) ?_
                          refine lv_ior hx hb dL_promised_173 ?_
                          refine k_toi (y := kB Pm) (kB_or0 Pm) ?_
                          refine lv_istore_n (lv' := [(2, .int (kB Pm)), (0, .ref (ad 9 0)), (1, .ref (ad 12 0)), (3, .int (nI 1)), (4, .int (nI 7)), (5, .int (nI k)), (6, .int (nI tm)), (7, .int lt), (8, .int (kb lo)), (9, .int (nI j))]) hx hb dL_promised_174 rfl hl (by decide) rfl (fun ls hl => ?_)
                          refine lv_iinc (v := nI (k + 1)) (lv' := [(5, .int (nI (k + 1))), (2, .int (kB Pm)), (0, .ref (ad 9 0)), (1, .ref (ad 12 0)), (3, .int (nI 1)), (4, .int (nI 7)), (6, .int (nI tm)), (7, .int lt), (8, .int (kb lo)), (9, .int (nI j))]) hx hb dL_promised_175 hl (k := 5) rfl (nI_add _ _) (by decide) rfl (fun ls hl => ?_)
                          refine lv_goto (tgt := 34) hx hb dL_promised_178 (by decide) ?_
                          exact ih (k + 1) (Pm) (by omega) (by omega) (q_pk0 hP (by have e9 : j = N := (by omega); rw [q_sel1 (q_mono hA.mo) (q_pdlt hA.d) h_39]; rw [← e9, ← hlo, ← htm]; simp [h_162])) _ _ hW hS _ (lv_sub hl [2, 3, 1, 4, 5, 0] rfl)
                        · refine lv_iconst (v := nI 1) hx hb dL_promised_165 (by decide) ?_
                          refine lv_iload hx hb dL_promised_166 (lv_at hl 5 rfl) ?_
                          refine lv_ishl hx hb dL_promised_168 ?_
                          refine lv_goto (tgt := 173) hx hb dL_promised_169 (by decide) ?_
                          refine lv_ior hx hb dL_promised_173 ?_
                          refine k_toi (y := kB (va_up Pm k true)) (kB_set Pm (by omega)) ?_
                          refine lv_istore_n (lv' := [(2, .int (kB (va_up Pm k true))), (0, .ref (ad 9 0)), (1, .ref (ad 12 0)), (3, .int (nI 1)), (4, .int (nI 7)), (5, .int (nI k)), (6, .int (nI tm)), (7, .int lt), (8, .int (kb lo)), (9, .int (nI j))]) hx hb dL_promised_174 rfl hl (by decide) rfl (fun ls hl => ?_)
                          refine lv_iinc (v := nI (k + 1)) (lv' := [(5, .int (nI (k + 1))), (2, .int (kB (va_up Pm k true))), (0, .ref (ad 9 0)), (1, .ref (ad 12 0)), (3, .int (nI 1)), (4, .int (nI 7)), (6, .int (nI tm)), (7, .int lt), (8, .int (kb lo)), (9, .int (nI j))]) hx hb dL_promised_175 hl (k := 5) rfl (nI_add _ _) (by decide) rfl (fun ls hl => ?_)
                          refine lv_goto (tgt := 34) hx hb dL_promised_178 (by decide) ?_
                          exact ih (k + 1) (va_up Pm k true) (by omega) (by omega) (q_pk hP (by have e9 : j = N := (by omega); rw [q_sel1 (q_mono hA.mo) (q_pdlt hA.d) h_39, ← e9, ← hlo, ← htm]; simp [h_147, h_152, h_162])) _ _ hW hS _ (lv_sub hl [2, 3, 1, 4, 5, 0] rfl)
                  · refine lv_aload_n hx hb dL_promised_65 rfl (lv_at hl 1 rfl) ?_
                    refine lv_iconst (v := nI 2) hx hb dL_promised_66 (by decide) ?_
                    refine k_iald hx hb hK hW (kc_12 g ad t) 2 rfl (by omega) (by decide) dL_promised_67 ?_
                    refine k_toi (y := kB th) hA.m2 ?_
                    refine lv_iload hx hb dL_promised_68 (lv_at hl 9 rfl) ?_
                    refine lv_ishr hx hb dL_promised_70 ?_
                    refine lv_iconst (v := nI 1) hx hb dL_promised_71 (by decide) ?_
                    refine lv_iand hx hb dL_promised_72 ?_
                    refine k_toi (y := kb (th j)) (kB_bit th (by omega)) ?_
                    refine lv_iconst (v := nI 1) hx hb dL_promised_73 (by decide) ?_
                    refine k_b1_ne (tgt := 131) hx hb dL_promised_74 (by decide) (fun h_74 => ?_) (fun h_74 => ?_)
                    · refine lv_iinc (v := nI (j + 1)) (lv' := [(9, .int (nI (j + 1))), (0, .ref (ad 9 0)), (1, .ref (ad 12 0)), (2, .int (kB Pm)), (3, .int (nI 1)), (4, .int (nI 7)), (5, .int (nI k)), (6, .int (nI tm)), (7, .int lt), (8, .int (kb lo))]) hx hb dL_promised_131 hl (k := 9) rfl (nI_add _ _) (by decide) rfl (fun ls hl => ?_)
                      refine lv_goto (tgt := 57) hx hb dL_promised_134 (by decide) ?_
                      exact ih_57 (j + 1) tm lt lo (by omega) (by omega) (by omega) (htm.trans (q_s1 h_74).2.1.symm) (hlt9.trans (q_s1 h_74).1.symm) (hlo.trans (q_s1 h_74).2.2.symm) _ _ hW hS _ (lv_sub hl [1, 2, 3, 4, 5, 6, 7, 8, 9, 0] rfl)
                    · refine lv_aload_n hx hb dL_promised_77 rfl (lv_at hl 0 rfl) ?_
                      refine lv_iload hx hb dL_promised_78 (lv_at hl 9 rfl) ?_
                      refine k_iald hx hb hK hW (kc_9 g ad t) j rfl (by omega) (by decide) dL_promised_80 ?_
                      refine k_toi (y := nI (on j)) (hA.x0 j (by omega)) ?_
                      refine lv_iload hx hb dL_promised_81 (lv_at hl 4 rfl) ?_
                      refine lv_idiv hx hb dL_promised_83 (by decide) ?_
                      refine k_toi (pk_div (by have := hA.d j (by omega); omega) (by decide) (by decide)) ?_
                      refine lv_istore (lv' := [(10, .int (nI ((on j) / 7))), (0, .ref (ad 9 0)), (1, .ref (ad 12 0)), (2, .int (kB Pm)), (3, .int (nI 1)), (4, .int (nI 7)), (5, .int (nI k)), (6, .int (nI tm)), (7, .int lt), (8, .int (kb lo)), (9, .int (nI j))]) hx hb dL_promised_84 hl (by decide) rfl (fun ls hl => ?_)
                      refine lv_iload hx hb dL_promised_86 (lv_at hl 9 rfl) ?_
                      refine k_ifz_eq (tgt := 107) hx hb dL_promised_88 (by decide) (fun h_88 => ?_) (fun h_88 => ?_)
                      · refine lv_iconst (v := nI 0) hx hb dL_promised_107 (by decide) ?_
                        refine lv_istore (lv' := [(8, .int (nI 0)), (10, .int (nI ((on j) / 7))), (0, .ref (ad 9 0)), (1, .ref (ad 12 0)), (2, .int (kB Pm)), (3, .int (nI 1)), (4, .int (nI 7)), (5, .int (nI k)), (6, .int (nI tm)), (7, .int lt), (9, .int (nI j))]) hx hb dL_promised_108 hl (by decide) rfl (fun ls hl => ?_)
                        refine lv_iload hx hb dL_promised_110 (lv_at hl 8 rfl) ?_
                        refine lv_iload hx hb dL_promised_112 (lv_at hl 1 rfl) ?_
                        refine lv_iload hx hb dL_promised_114 (lv_at hl 9 rfl) ?_
                        refine lv_icmp_eq (tgt := 123) hx hb dL_promised_116 (by decide) (fun h_116 => ?_) (fun h_116 => ?_)
                        · refine lv_iconst (v := nI 0) hx hb dL_promised_123 (by decide) ?_
                          refine k_iadd hx hb dL_promised_124 ?_
                          refine lv_istore (lv' := [(6, .int (nI (tm + 0))), (8, .int (nI 0)), (10, .int (nI ((on j) / 7))), (0, .ref (ad 9 0)), (1, .ref (ad 12 0)), (2, .int (kB Pm)), (3, .int (nI 1)), (4, .int (nI 7)), (5, .int (nI k)), (7, .int lt), (9, .int (nI j))]) hx hb dL_promised_125 hl (by decide) rfl (fun ls hl => ?_)
                          refine lv_iload hx hb dL_promised_127 (lv_at hl 2 rfl) ?_
                          refine lv_istore (lv' := [(7, .int (nI ((on j) / 7))), (6, .int (nI (tm + 0))), (8, .int (nI 0)), (10, .int (nI ((on j) / 7))), (0, .ref (ad 9 0)), (1, .ref (ad 12 0)), (2, .int (kB Pm)), (3, .int (nI 1)), (4, .int (nI 7)), (5, .int (nI k)), (9, .int (nI j))]) hx hb dL_promised_129 hl (by decide) rfl (fun ls hl => ?_)
                          refine lv_iinc (v := nI (j + 1)) (lv' := [(9, .int (nI (j + 1))), (7, .int (nI ((on j) / 7))), (6, .int (nI (tm + 0))), (8, .int (nI 0)), (10, .int (nI ((on j) / 7))), (0, .ref (ad 9 0)), (1, .ref (ad 12 0)), (2, .int (kB Pm)), (3, .int (nI 1)), (4, .int (nI 7)), (5, .int (nI k))]) hx hb dL_promised_131 hl (k := 10) rfl (nI_add _ _) (by decide) rfl (fun ls hl => ?_)
                          refine lv_goto (tgt := 57) hx hb dL_promised_134 (by decide) ?_
                          exact ih_57 (j + 1) (tm + 0) (nI ((on j) / 7)) false (by omega) (by omega) (by omega) (q_stm0 (by omega) h_74 htm hlt9 h_116) (q_slt (pd := (fun q => on q / 7)) (by omega) h_74).symm (q_slo (by omega) h_74 hlo (by simp [h_88])) _ _ hW hS _ (lv_sub hl [5, 6, 7, 8, 9, 10, 2, 1, 3, 0] rfl)
                        · refine lv_iconst (v := nI 1) hx hb dL_promised_119 (by decide) ?_
                          refine lv_goto (tgt := 124) hx hb dL_promised_120 (by decide) ?_
                          refine k_iadd hx hb dL_promised_124 ?_
                          refine lv_istore (lv' := [(6, .int (nI (tm + 1))), (8, .int (nI 0)), (10, .int (nI ((on j) / 7))), (0, .ref (ad 9 0)), (1, .ref (ad 12 0)), (2, .int (kB Pm)), (3, .int (nI 1)), (4, .int (nI 7)), (5, .int (nI k)), (7, .int lt), (9, .int (nI j))]) hx hb dL_promised_125 hl (by decide) rfl (fun ls hl => ?_)
                          refine lv_iload hx hb dL_promised_127 (lv_at hl 2 rfl) ?_
                          refine lv_istore (lv' := [(7, .int (nI ((on j) / 7))), (6, .int (nI (tm + 1))), (8, .int (nI 0)), (10, .int (nI ((on j) / 7))), (0, .ref (ad 9 0)), (1, .ref (ad 12 0)), (2, .int (kB Pm)), (3, .int (nI 1)), (4, .int (nI 7)), (5, .int (nI k)), (9, .int (nI j))]) hx hb dL_promised_129 hl (by decide) rfl (fun ls hl => ?_)
                          refine lv_iinc (v := nI (j + 1)) (lv' := [(9, .int (nI (j + 1))), (7, .int (nI ((on j) / 7))), (6, .int (nI (tm + 1))), (8, .int (nI 0)), (10, .int (nI ((on j) / 7))), (0, .ref (ad 9 0)), (1, .ref (ad 12 0)), (2, .int (kB Pm)), (3, .int (nI 1)), (4, .int (nI 7)), (5, .int (nI k))]) hx hb dL_promised_131 hl (k := 10) rfl (nI_add _ _) (by decide) rfl (fun ls hl => ?_)
                          refine lv_goto (tgt := 57) hx hb dL_promised_134 (by decide) ?_
                          exact ih_57 (j + 1) (tm + 1) (nI ((on j) / 7)) false (by omega) (by omega) (by omega) (q_stm (by omega) h_74 htm hlt9 h_116) (q_slt (pd := (fun q => on q / 7)) (by omega) h_74).symm (q_slo (by omega) h_74 hlo (by simp [h_88])) _ _ hW hS _ (lv_sub hl [5, 6, 7, 8, 9, 10, 2, 1, 3, 0] rfl)
                      · refine lv_iload hx hb dL_promised_91 (lv_at hl 0 rfl) ?_
                        refine lv_aload_n hx hb dL_promised_93 rfl (lv_at hl 1 rfl) ?_
                        refine lv_iload hx hb dL_promised_94 (lv_at hl 6 rfl) ?_
                        refine k_iald hx hb hK hW (kc_9 g ad t) k rfl (by omega) (by decide) dL_promised_96 ?_
                        refine k_toi (y := nI (on k)) (hA.x0 k (by omega)) ?_
                        refine lv_iload hx hb dL_promised_97 (lv_at hl 5 rfl) ?_
                        refine lv_idiv hx hb dL_promised_99 (by decide) ?_
                        refine k_toi (pk_div (by have := hA.d k (by omega); omega) (by decide) (by decide)) ?_
                        refine k_icmp_eq (tgt := 107) hx hb (a := (on j) / 7) (b := (on k) / 7) (by have := hA.d j (by omega); have := Nat.div_le_self (on j) 1; have := Nat.div_le_self (on j) 7; have := Nat.div_le_self (on j) 28; omega) (by have := hA.d k (by omega); have := Nat.div_le_self (on k) 1; have := Nat.div_le_self (on k) 7; have := Nat.div_le_self (on k) 28; omega) dL_promised_100 (by decide) (fun h_100 => ?_) (fun h_100 => ?_)
                        · refine lv_iconst (v := nI 0) hx hb dL_promised_107 (by decide) ?_
                          refine lv_istore (lv' := [(8, .int (nI 0)), (10, .int (nI ((on j) / 7))), (0, .ref (ad 9 0)), (1, .ref (ad 12 0)), (2, .int (kB Pm)), (3, .int (nI 1)), (4, .int (nI 7)), (5, .int (nI k)), (6, .int (nI tm)), (7, .int lt), (9, .int (nI j))]) hx hb dL_promised_108 hl (by decide) rfl (fun ls hl => ?_)
                          refine lv_iload hx hb dL_promised_110 (lv_at hl 8 rfl) ?_
                          refine lv_iload hx hb dL_promised_112 (lv_at hl 1 rfl) ?_
                          refine lv_iload hx hb dL_promised_114 (lv_at hl 9 rfl) ?_
                          refine lv_icmp_eq (tgt := 123) hx hb dL_promised_116 (by decide) (fun h_116 => ?_) (fun h_116 => ?_)
                          · refine lv_iconst (v := nI 0) hx hb dL_promised_123 (by decide) ?_
                            refine k_iadd hx hb dL_promised_124 ?_
                            refine lv_istore (lv' := [(6, .int (nI (tm + 0))), (8, .int (nI 0)), (10, .int (nI ((on j) / 7))), (0, .ref (ad 9 0)), (1, .ref (ad 12 0)), (2, .int (kB Pm)), (3, .int (nI 1)), (4, .int (nI 7)), (5, .int (nI k)), (7, .int lt), (9, .int (nI j))]) hx hb dL_promised_125 hl (by decide) rfl (fun ls hl => ?_)
                            refine lv_iload hx hb dL_promised_127 (lv_at hl 2 rfl) ?_
                            refine lv_istore (lv' := [(7, .int (nI ((on j) / 7))), (6, .int (nI (tm + 0))), (8, .int (nI 0)), (10, .int (nI ((on j) / 7))), (0, .ref (ad 9 0)), (1, .ref (ad 12 0)), (2, .int (kB Pm)), (3, .int (nI 1)), (4, .int (nI 7)), (5, .int (nI k)), (9, .int (nI j))]) hx hb dL_promised_129 hl (by decide) rfl (fun ls hl => ?_)
                            refine lv_iinc (v := nI (j + 1)) (lv' := [(9, .int (nI (j + 1))), (7, .int (nI ((on j) / 7))), (6, .int (nI (tm + 0))), (8, .int (nI 0)), (10, .int (nI ((on j) / 7))), (0, .ref (ad 9 0)), (1, .ref (ad 12 0)), (2, .int (kB Pm)), (3, .int (nI 1)), (4, .int (nI 7)), (5, .int (nI k))]) hx hb dL_promised_131 hl (k := 10) rfl (nI_add _ _) (by decide) rfl (fun ls hl => ?_)
                            refine lv_goto (tgt := 57) hx hb dL_promised_134 (by decide) ?_
                            exact ih_57 (j + 1) (tm + 0) (nI ((on j) / 7)) false (by omega) (by omega) (by omega) (q_stm0 (by omega) h_74 htm hlt9 h_116) (q_slt (pd := (fun q => on q / 7)) (by omega) h_74).symm (q_slo (by omega) h_74 hlo (by rw [h_88, Bool.true_and]; exact (decide_eq_false (fun q => q h_100)).symm)) _ _ hW hS _ (lv_sub hl [5, 6, 7, 8, 9, 10, 2, 1, 3, 0] rfl)
                          · refine lv_iconst (v := nI 1) hx hb dL_promised_119 (by decide) ?_
                            refine lv_goto (tgt := 124) hx hb dL_promised_120 (by decide) ?_
                            refine k_iadd hx hb dL_promised_124 ?_
                            refine lv_istore (lv' := [(6, .int (nI (tm + 1))), (8, .int (nI 0)), (10, .int (nI ((on j) / 7))), (0, .ref (ad 9 0)), (1, .ref (ad 12 0)), (2, .int (kB Pm)), (3, .int (nI 1)), (4, .int (nI 7)), (5, .int (nI k)), (7, .int lt), (9, .int (nI j))]) hx hb dL_promised_125 hl (by decide) rfl (fun ls hl => ?_)
                            refine lv_iload hx hb dL_promised_127 (lv_at hl 2 rfl) ?_
                            refine lv_istore (lv' := [(7, .int (nI ((on j) / 7))), (6, .int (nI (tm + 1))), (8, .int (nI 0)), (10, .int (nI ((on j) / 7))), (0, .ref (ad 9 0)), (1, .ref (ad 12 0)), (2, .int (kB Pm)), (3, .int (nI 1)), (4, .int (nI 7)), (5, .int (nI k)), (9, .int (nI j))]) hx hb dL_promised_129 hl (by decide) rfl (fun ls hl => ?_)
                            refine lv_iinc (v := nI (j + 1)) (lv' := [(9, .int (nI (j + 1))), (7, .int (nI ((on j) / 7))), (6, .int (nI (tm + 1))), (8, .int (nI 0)), (10, .int (nI ((on j) / 7))), (0, .ref (ad 9 0)), (1, .ref (ad 12 0)), (2, .int (kB Pm)), (3, .int (nI 1)), (4, .int (nI 7)), (5, .int (nI k))]) hx hb dL_promised_131 hl (k := 10) rfl (nI_add _ _) (by decide) rfl (fun ls hl => ?_)
                            refine lv_goto (tgt := 57) hx hb dL_promised_134 (by decide) ?_
                            exact ih_57 (j + 1) (tm + 1) (nI ((on j) / 7)) false (by omega) (by omega) (by omega) (q_stm (by omega) h_74 htm hlt9 h_116) (q_slt (pd := (fun q => on q / 7)) (by omega) h_74).symm (q_slo (by omega) h_74 hlo (by rw [h_88, Bool.true_and]; exact (decide_eq_false (fun q => q h_100)).symm)) _ _ hW hS _ (lv_sub hl [5, 6, 7, 8, 9, 10, 2, 1, 3, 0] rfl)
                        · refine lv_iconst (v := nI 1) hx hb dL_promised_103 (by decide) ?_
                          refine lv_goto (tgt := 108) hx hb dL_promised_104 (by decide) ?_
                          refine lv_istore (lv' := [(8, .int (nI 1)), (10, .int (nI ((on j) / 7))), (0, .ref (ad 9 0)), (1, .ref (ad 12 0)), (2, .int (kB Pm)), (3, .int (nI 1)), (4, .int (nI 7)), (5, .int (nI k)), (6, .int (nI tm)), (7, .int lt), (9, .int (nI j))]) hx hb dL_promised_108 hl (by decide) rfl (fun ls hl => ?_)
                          refine lv_iload hx hb dL_promised_110 (lv_at hl 8 rfl) ?_
                          refine lv_iload hx hb dL_promised_112 (lv_at hl 1 rfl) ?_
                          refine lv_iload hx hb dL_promised_114 (lv_at hl 9 rfl) ?_
                          refine lv_icmp_eq (tgt := 123) hx hb dL_promised_116 (by decide) (fun h_116 => ?_) (fun h_116 => ?_)
                          · refine lv_iconst (v := nI 0) hx hb dL_promised_123 (by decide) ?_
                            refine k_iadd hx hb dL_promised_124 ?_
                            refine lv_istore (lv' := [(6, .int (nI (tm + 0))), (8, .int (nI 1)), (10, .int (nI ((on j) / 7))), (0, .ref (ad 9 0)), (1, .ref (ad 12 0)), (2, .int (kB Pm)), (3, .int (nI 1)), (4, .int (nI 7)), (5, .int (nI k)), (7, .int lt), (9, .int (nI j))]) hx hb dL_promised_125 hl (by decide) rfl (fun ls hl => ?_)
                            refine lv_iload hx hb dL_promised_127 (lv_at hl 2 rfl) ?_
                            refine lv_istore (lv' := [(7, .int (nI ((on j) / 7))), (6, .int (nI (tm + 0))), (8, .int (nI 1)), (10, .int (nI ((on j) / 7))), (0, .ref (ad 9 0)), (1, .ref (ad 12 0)), (2, .int (kB Pm)), (3, .int (nI 1)), (4, .int (nI 7)), (5, .int (nI k)), (9, .int (nI j))]) hx hb dL_promised_129 hl (by decide) rfl (fun ls hl => ?_)
                            refine lv_iinc (v := nI (j + 1)) (lv' := [(9, .int (nI (j + 1))), (7, .int (nI ((on j) / 7))), (6, .int (nI (tm + 0))), (8, .int (nI 1)), (10, .int (nI ((on j) / 7))), (0, .ref (ad 9 0)), (1, .ref (ad 12 0)), (2, .int (kB Pm)), (3, .int (nI 1)), (4, .int (nI 7)), (5, .int (nI k))]) hx hb dL_promised_131 hl (k := 10) rfl (nI_add _ _) (by decide) rfl (fun ls hl => ?_)
                            refine lv_goto (tgt := 57) hx hb dL_promised_134 (by decide) ?_
                            exact ih_57 (j + 1) (tm + 0) (nI ((on j) / 7)) true (by omega) (by omega) (by omega) (q_stm0 (by omega) h_74 htm hlt9 h_116) (q_slt (pd := (fun q => on q / 7)) (by omega) h_74).symm (q_slo (by omega) h_74 hlo (by rw [h_88, Bool.true_and]; exact (decide_eq_true h_100).symm)) _ _ hW hS _ (lv_sub hl [5, 6, 7, 8, 9, 10, 2, 1, 3, 0] rfl)
                          · refine lv_iconst (v := nI 1) hx hb dL_promised_119 (by decide) ?_
                            refine lv_goto (tgt := 124) hx hb dL_promised_120 (by decide) ?_
                            refine k_iadd hx hb dL_promised_124 ?_
                            refine lv_istore (lv' := [(6, .int (nI (tm + 1))), (8, .int (nI 1)), (10, .int (nI ((on j) / 7))), (0, .ref (ad 9 0)), (1, .ref (ad 12 0)), (2, .int (kB Pm)), (3, .int (nI 1)), (4, .int (nI 7)), (5, .int (nI k)), (7, .int lt), (9, .int (nI j))]) hx hb dL_promised_125 hl (by decide) rfl (fun ls hl => ?_)
                            refine lv_iload hx hb dL_promised_127 (lv_at hl 2 rfl) ?_
                            refine lv_istore (lv' := [(7, .int (nI ((on j) / 7))), (6, .int (nI (tm + 1))), (8, .int (nI 1)), (10, .int (nI ((on j) / 7))), (0, .ref (ad 9 0)), (1, .ref (ad 12 0)), (2, .int (kB Pm)), (3, .int (nI 1)), (4, .int (nI 7)), (5, .int (nI k)), (9, .int (nI j))]) hx hb dL_promised_129 hl (by decide) rfl (fun ls hl => ?_)
                            refine lv_iinc (v := nI (j + 1)) (lv' := [(9, .int (nI (j + 1))), (7, .int (nI ((on j) / 7))), (6, .int (nI (tm + 1))), (8, .int (nI 1)), (10, .int (nI ((on j) / 7))), (0, .ref (ad 9 0)), (1, .ref (ad 12 0)), (2, .int (kB Pm)), (3, .int (nI 1)), (4, .int (nI 7)), (5, .int (nI k))]) hx hb dL_promised_131 hl (k := 10) rfl (nI_add _ _) (by decide) rfl (fun ls hl => ?_)
                            refine lv_goto (tgt := 57) hx hb dL_promised_134 (by decide) ?_
                            exact ih_57 (j + 1) (tm + 1) (nI ((on j) / 7)) true (by omega) (by omega) (by omega) (q_stm (by omega) h_74 htm hlt9 h_116) (q_slt (pd := (fun q => on q / 7)) (by omega) h_74).symm (q_slo (by omega) h_74 hlo (by rw [h_88, Bool.true_and]; exact (decide_eq_true h_100).symm)) _ _ hW hS _ (lv_sub hl [5, 6, 7, 8, 9, 10, 2, 1, 3, 0] rfl)
              exact hloop_57 (N + 1) (k + 1) 0 (-1) true (by omega) (by omega) (by omega) (q_in _ (Nat.le_refl _)).2.1.symm (q_in _ (Nat.le_refl _)).1.symm (q_in _ (Nat.le_refl _)).2.2.symm _ _ hW hS _ (lv_sub hl [4, 5, 6, 7, 8, 9, 3, 2, 1, 0] rfl)
        exact hloop_34 (N + 1) 0 (fun j => (false || k_sel th (fun q => on q / 1) N r1 (-1) j)) (by omega) (Nat.zero_le _) q_pk_in _ _ hW hS _ (lv_sub hl [3, 4, 5, 2, 1, 0] rfl)
      · refine lv_iconst (v := nI 0) hx hb dL_promised_42 (by decide) ?_
        refine lv_istore (lv' := [(6, .int (nI 0)), (0, .ref (ad 9 0)), (1, .ref (ad 12 0)), (2, .int (kB Pm)), (3, .int (nI 0)), (4, .int (nI 1)), (5, .int (nI k))]) hx hb dL_promised_43 hl (by decide) rfl (fun ls hl => ?_)
        refine lv_iconst (v := (-1)) hx hb dL_promised_45 (by decide) ?_
        refine lv_istore (lv' := [(7, .int (-1)), (6, .int (nI 0)), (0, .ref (ad 9 0)), (1, .ref (ad 12 0)), (2, .int (kB Pm)), (3, .int (nI 0)), (4, .int (nI 1)), (5, .int (nI k))]) hx hb dL_promised_46 hl (by decide) rfl (fun ls hl => ?_)
        refine lv_iconst (v := nI 1) hx hb dL_promised_48 (by decide) ?_
        refine lv_istore (lv' := [(8, .int (nI 1)), (7, .int (-1)), (6, .int (nI 0)), (0, .ref (ad 9 0)), (1, .ref (ad 12 0)), (2, .int (kB Pm)), (3, .int (nI 0)), (4, .int (nI 1)), (5, .int (nI k))]) hx hb dL_promised_49 hl (by decide) rfl (fun ls hl => ?_)
        refine lv_iload hx hb dL_promised_51 (lv_at hl 8 rfl) ?_
        refine lv_iconst (v := nI 1) hx hb dL_promised_53 (by decide) ?_
        refine k_iadd hx hb dL_promised_54 ?_
        refine lv_istore (lv' := [(9, .int (nI (k + 1))), (8, .int (nI 1)), (7, .int (-1)), (6, .int (nI 0)), (0, .ref (ad 9 0)), (1, .ref (ad 12 0)), (2, .int (kB Pm)), (3, .int (nI 0)), (4, .int (nI 1)), (5, .int (nI k))]) hx hb dL_promised_55 hl (by decide) rfl (fun ls hl => ?_)
        have hloop_57 : ∀ (n : Nat) (j : Nat) (tm : Nat) (lt : Int32) (lo : Bool), (N < j + n) → (k < j) → (j ≤ N) → (tm = q_tm th (fun q => on q / 1) k j) → (lt = q_lt th (fun q => on q / 1) k j) → (lo = q_lo th (fun q => on q / 1) k j) → ∀ (H : Heap) (locs : List Loc), k_H g ad t H → va_S (k_A g) s.heap H locs → ∀ (ls : Array Slot), lv_has ls 11 [(0, .ref (ad 9 0)), (1, .ref (ad 12 0)), (2, .int (kB Pm)), (3, .int (nI 0)), (4, .int (nI 1)), (5, .int (nI k)), (6, .int (nI tm)), (7, .int lt), (8, .int (kb lo)), (9, .int (nI j))] → W p l e rm_L_promised s m args below meth c H locs 0 0 Q (F0 m 57 ls []) := by
          intro n
          induction n with
          | zero =>
            intro j tm lt lo hfu2 hkj hjN htm hlt9 hlo
            exact absurd hfu2 (by omega)
          | succ n ih_57 =>
            intro j tm lt lo hfu2 hkj hjN htm hlt9 hlo H locs hW hS ls hl
            refine lv_iload hx hb dL_promised_57 (lv_at hl 9 rfl) ?_
            refine lv_aload_n hx hb dL_promised_59 rfl (lv_at hl 1 rfl) ?_
            refine lv_iconst (v := nI 0) hx hb dL_promised_60 (by decide) ?_
            refine k_iald hx hb hK hW (kc_12 g ad t) 0 rfl (by omega) (by decide) dL_promised_61 ?_
            refine k_toi (y := nI N) hA.m0 ?_
            refine k_icmp_ge (tgt := 137) hx hb (a := j) (b := N) (by omega) (by omega) dL_promised_62 (by decide) (fun h_62 => ?_) (fun h_62 => ?_)
            · refine lv_iload_n hx hb dL_promised_137 rfl (lv_at hl 2 rfl) ?_
              refine lv_aload_n hx hb dL_promised_138 rfl (lv_at hl 1 rfl) ?_
              refine lv_iconst (v := nI 2) hx hb dL_promised_139 (by decide) ?_
              refine k_iald hx hb hK hW (kc_12 g ad t) 2 rfl (by omega) (by decide) dL_promised_140 ?_
              refine k_toi (y := kB th) hA.m2 ?_
              refine lv_iload hx hb dL_promised_141 (lv_at hl 5 rfl) ?_
              refine lv_ishr hx hb dL_promised_143 ?_
              refine lv_iconst (v := nI 1) hx hb dL_promised_144 (by decide) ?_
              refine lv_iand hx hb dL_promised_145 ?_
              refine k_toi (y := kb (th k)) (kB_bit th (by omega)) ?_
              refine lv_iconst (v := nI 1) hx hb dL_promised_146 (by decide) ?_
              refine k_b1_ne (tgt := 172) hx hb dL_promised_147 (by decide) (fun h_147 => ?_) (fun h_147 => ?_)
              · refine lv_iconst (v := nI 0) hx hb dL_promised_172 (by decide) ?_
                refine lv_ior hx hb dL_promised_173 ?_
                refine k_toi (y := kB Pm) (kB_or0 Pm) ?_
                refine lv_istore_n (lv' := [(2, .int (kB Pm)), (0, .ref (ad 9 0)), (1, .ref (ad 12 0)), (3, .int (nI 0)), (4, .int (nI 1)), (5, .int (nI k)), (6, .int (nI tm)), (7, .int lt), (8, .int (kb lo)), (9, .int (nI j))]) hx hb dL_promised_174 rfl hl (by decide) rfl (fun ls hl => ?_)
                refine lv_iinc (v := nI (k + 1)) (lv' := [(5, .int (nI (k + 1))), (2, .int (kB Pm)), (0, .ref (ad 9 0)), (1, .ref (ad 12 0)), (3, .int (nI 0)), (4, .int (nI 1)), (6, .int (nI tm)), (7, .int lt), (8, .int (kb lo)), (9, .int (nI j))]) hx hb dL_promised_175 hl (k := 5) rfl (nI_add _ _) (by decide) rfl (fun ls hl => ?_)
                refine lv_goto (tgt := 34) hx hb dL_promised_178 (by decide) ?_
                exact ih (k + 1) (Pm) (by omega) (by omega) (q_pk0 hP (by have e9 : j = N := (by omega); rw [q_sel1 (q_mono hA.mo) (q_pdlt hA.d) h_39]; simp [h_147])) _ _ hW hS _ (lv_sub hl [2, 3, 1, 4, 5, 0] rfl)
              · refine lv_iload hx hb dL_promised_150 (lv_at hl 8 rfl) ?_
                refine k_ifz_eq (tgt := 172) hx hb dL_promised_152 (by decide) (fun h_152 => ?_) (fun h_152 => ?_)
                · refine lv_iconst (v := nI 0) hx hb dL_promised_172 (by decide) ?_
                  refine lv_ior hx hb dL_promised_173 ?_
                  refine k_toi (y := kB Pm) (kB_or0 Pm) ?_
                  refine lv_istore_n (lv' := [(2, .int (kB Pm)), (0, .ref (ad 9 0)), (1, .ref (ad 12 0)), (3, .int (nI 0)), (4, .int (nI 1)), (5, .int (nI k)), (6, .int (nI tm)), (7, .int lt), (8, .int (kb lo)), (9, .int (nI j))]) hx hb dL_promised_174 rfl hl (by decide) rfl (fun ls hl => ?_)
                  refine lv_iinc (v := nI (k + 1)) (lv' := [(5, .int (nI (k + 1))), (2, .int (kB Pm)), (0, .ref (ad 9 0)), (1, .ref (ad 12 0)), (3, .int (nI 0)), (4, .int (nI 1)), (6, .int (nI tm)), (7, .int lt), (8, .int (kb lo)), (9, .int (nI j))]) hx hb dL_promised_175 hl (k := 5) rfl (nI_add _ _) (by decide) rfl (fun ls hl => ?_)
                  refine lv_goto (tgt := 34) hx hb dL_promised_178 (by decide) ?_
                  exact ih (k + 1) (Pm) (by omega) (by omega) (q_pk0 hP (by have e9 : j = N := (by omega); rw [q_sel1 (q_mono hA.mo) (q_pdlt hA.d) h_39]; rw [← e9, ← hlo, ← htm]; simp [h_152])) _ _ hW hS _ (lv_sub hl [2, 3, 1, 4, 5, 0] rfl)
                · refine lv_iload hx hb dL_promised_155 (lv_at hl 6 rfl) ?_
                  refine lv_aload_n hx hb dL_promised_157 rfl (lv_at hl 1 rfl) ?_
                  refine lv_iconst (v := nI 5) hx hb dL_promised_158 (by decide) ?_
                  refine lv_iload_n hx hb dL_promised_159 rfl (lv_at hl 3 rfl) ?_
                  refine k_iadd hx hb dL_promised_160 ?_
                  refine k_iald hx hb hK hW (kc_12 g ad t) (5 + 0) rfl (by omega) (by decide) dL_promised_161 ?_
                  refine k_toi (y := nI r1) hR.m5 ?_
                  refine k_icmp_ge (tgt := 172) hx hb (a := tm) (b := r1) (by have : tm ≤ j := htm ▸ q_tmle j; omega) (by have := hR.b1; have := hR.b2; have := hR.b3; omega) dL_promised_162 (by decide) (fun h_162 => ?_) (fun h_162 => ?_)
                  · refine lv_iconst (v := nI 0) hx hb dL_promised_172 (by decide) ?_
                    refine lv_ior hx hb dL_promised_173 ?_
                    refine k_toi (y := kB Pm) (kB_or0 Pm) ?_
                    refine lv_istore_n (lv' := [(2, .int (kB Pm)), (0, .ref (ad 9 0)), (1, .ref (ad 12 0)), (3, .int (nI 0)), (4, .int (nI 1)), (5, .int (nI k)), (6, .int (nI tm)), (7, .int lt), (8, .int (kb lo)), (9, .int (nI j))]) hx hb dL_promised_174 rfl hl (by decide) rfl (fun ls hl => ?_)
                    refine lv_iinc (v := nI (k + 1)) (lv' := [(5, .int (nI (k + 1))), (2, .int (kB Pm)), (0, .ref (ad 9 0)), (1, .ref (ad 12 0)), (3, .int (nI 0)), (4, .int (nI 1)), (6, .int (nI tm)), (7, .int lt), (8, .int (kb lo)), (9, .int (nI j))]) hx hb dL_promised_175 hl (k := 5) rfl (nI_add _ _) (by decide) rfl (fun ls hl => ?_)
                    refine lv_goto (tgt := 34) hx hb dL_promised_178 (by decide) ?_
                    exact ih (k + 1) (Pm) (by omega) (by omega) (q_pk0 hP (by have e9 : j = N := (by omega); rw [q_sel1 (q_mono hA.mo) (q_pdlt hA.d) h_39]; rw [← e9, ← hlo, ← htm]; simp [h_162])) _ _ hW hS _ (lv_sub hl [2, 3, 1, 4, 5, 0] rfl)
                  · refine lv_iconst (v := nI 1) hx hb dL_promised_165 (by decide) ?_
                    refine lv_iload hx hb dL_promised_166 (lv_at hl 5 rfl) ?_
                    refine lv_ishl hx hb dL_promised_168 ?_
                    refine lv_goto (tgt := 173) hx hb dL_promised_169 (by decide) ?_
                    refine lv_ior hx hb dL_promised_173 ?_
                    refine k_toi (y := kB (va_up Pm k true)) (kB_set Pm (by omega)) ?_
                    refine lv_istore_n (lv' := [(2, .int (kB (va_up Pm k true))), (0, .ref (ad 9 0)), (1, .ref (ad 12 0)), (3, .int (nI 0)), (4, .int (nI 1)), (5, .int (nI k)), (6, .int (nI tm)), (7, .int lt), (8, .int (kb lo)), (9, .int (nI j))]) hx hb dL_promised_174 rfl hl (by decide) rfl (fun ls hl => ?_)
                    refine lv_iinc (v := nI (k + 1)) (lv' := [(5, .int (nI (k + 1))), (2, .int (kB (va_up Pm k true))), (0, .ref (ad 9 0)), (1, .ref (ad 12 0)), (3, .int (nI 0)), (4, .int (nI 1)), (6, .int (nI tm)), (7, .int lt), (8, .int (kb lo)), (9, .int (nI j))]) hx hb dL_promised_175 hl (k := 5) rfl (nI_add _ _) (by decide) rfl (fun ls hl => ?_)
                    refine lv_goto (tgt := 34) hx hb dL_promised_178 (by decide) ?_
                    exact ih (k + 1) (va_up Pm k true) (by omega) (by omega) (q_pk hP (by have e9 : j = N := (by omega); rw [q_sel1 (q_mono hA.mo) (q_pdlt hA.d) h_39, ← e9, ← hlo, ← htm]; simp [h_147, h_152, h_162])) _ _ hW hS _ (lv_sub hl [2, 3, 1, 4, 5, 0] rfl)
            · refine lv_aload_n hx hb dL_promised_65 rfl (lv_at hl 1 rfl) ?_
              refine lv_iconst (v := nI 2) hx hb dL_promised_66 (by decide) ?_
              refine k_iald hx hb hK hW (kc_12 g ad t) 2 rfl (by omega) (by decide) dL_promised_67 ?_
              refine k_toi (y := kB th) hA.m2 ?_
              refine lv_iload hx hb dL_promised_68 (lv_at hl 9 rfl) ?_
              refine lv_ishr hx hb dL_promised_70 ?_
              refine lv_iconst (v := nI 1) hx hb dL_promised_71 (by decide) ?_
              refine lv_iand hx hb dL_promised_72 ?_
              refine k_toi (y := kb (th j)) (kB_bit th (by omega)) ?_
              refine lv_iconst (v := nI 1) hx hb dL_promised_73 (by decide) ?_
              refine k_b1_ne (tgt := 131) hx hb dL_promised_74 (by decide) (fun h_74 => ?_) (fun h_74 => ?_)
              · refine lv_iinc (v := nI (j + 1)) (lv' := [(9, .int (nI (j + 1))), (0, .ref (ad 9 0)), (1, .ref (ad 12 0)), (2, .int (kB Pm)), (3, .int (nI 0)), (4, .int (nI 1)), (5, .int (nI k)), (6, .int (nI tm)), (7, .int lt), (8, .int (kb lo))]) hx hb dL_promised_131 hl (k := 9) rfl (nI_add _ _) (by decide) rfl (fun ls hl => ?_)
                refine lv_goto (tgt := 57) hx hb dL_promised_134 (by decide) ?_
                exact ih_57 (j + 1) tm lt lo (by omega) (by omega) (by omega) (htm.trans (q_s1 h_74).2.1.symm) (hlt9.trans (q_s1 h_74).1.symm) (hlo.trans (q_s1 h_74).2.2.symm) _ _ hW hS _ (lv_sub hl [1, 2, 3, 4, 5, 6, 7, 8, 9, 0] rfl)
              · refine lv_aload_n hx hb dL_promised_77 rfl (lv_at hl 0 rfl) ?_
                refine lv_iload hx hb dL_promised_78 (lv_at hl 9 rfl) ?_
                refine k_iald hx hb hK hW (kc_9 g ad t) j rfl (by omega) (by decide) dL_promised_80 ?_
                refine k_toi (y := nI (on j)) (hA.x0 j (by omega)) ?_
                refine lv_iload hx hb dL_promised_81 (lv_at hl 4 rfl) ?_
                refine lv_idiv hx hb dL_promised_83 (by decide) ?_
                refine k_toi (pk_div (by have := hA.d j (by omega); omega) (by decide) (by decide)) ?_
                refine lv_istore (lv' := [(10, .int (nI ((on j) / 1))), (0, .ref (ad 9 0)), (1, .ref (ad 12 0)), (2, .int (kB Pm)), (3, .int (nI 0)), (4, .int (nI 1)), (5, .int (nI k)), (6, .int (nI tm)), (7, .int lt), (8, .int (kb lo)), (9, .int (nI j))]) hx hb dL_promised_84 hl (by decide) rfl (fun ls hl => ?_)
                refine lv_iload hx hb dL_promised_86 (lv_at hl 9 rfl) ?_
                refine k_ifz_eq (tgt := 107) hx hb dL_promised_88 (by decide) (fun h_88 => ?_) (fun h_88 => ?_)
                · refine lv_iconst (v := nI 0) hx hb dL_promised_107 (by decide) ?_
                  refine lv_istore (lv' := [(8, .int (nI 0)), (10, .int (nI ((on j) / 1))), (0, .ref (ad 9 0)), (1, .ref (ad 12 0)), (2, .int (kB Pm)), (3, .int (nI 0)), (4, .int (nI 1)), (5, .int (nI k)), (6, .int (nI tm)), (7, .int lt), (9, .int (nI j))]) hx hb dL_promised_108 hl (by decide) rfl (fun ls hl => ?_)
                  refine lv_iload hx hb dL_promised_110 (lv_at hl 8 rfl) ?_
                  refine lv_iload hx hb dL_promised_112 (lv_at hl 1 rfl) ?_
                  refine lv_iload hx hb dL_promised_114 (lv_at hl 9 rfl) ?_
                  refine lv_icmp_eq (tgt := 123) hx hb dL_promised_116 (by decide) (fun h_116 => ?_) (fun h_116 => ?_)
                  · refine lv_iconst (v := nI 0) hx hb dL_promised_123 (by decide) ?_
                    refine k_iadd hx hb dL_promised_124 ?_
                    refine lv_istore (lv' := [(6, .int (nI (tm + 0))), (8, .int (nI 0)), (10, .int (nI ((on j) / 1))), (0, .ref (ad 9 0)), (1, .ref (ad 12 0)), (2, .int (kB Pm)), (3, .int (nI 0)), (4, .int (nI 1)), (5, .int (nI k)), (7, .int lt), (9, .int (nI j))]) hx hb dL_promised_125 hl (by decide) rfl (fun ls hl => ?_)
                    refine lv_iload hx hb dL_promised_127 (lv_at hl 2 rfl) ?_
                    refine lv_istore (lv' := [(7, .int (nI ((on j) / 1))), (6, .int (nI (tm + 0))), (8, .int (nI 0)), (10, .int (nI ((on j) / 1))), (0, .ref (ad 9 0)), (1, .ref (ad 12 0)), (2, .int (kB Pm)), (3, .int (nI 0)), (4, .int (nI 1)), (5, .int (nI k)), (9, .int (nI j))]) hx hb dL_promised_129 hl (by decide) rfl (fun ls hl => ?_)
                    refine lv_iinc (v := nI (j + 1)) (lv' := [(9, .int (nI (j + 1))), (7, .int (nI ((on j) / 1))), (6, .int (nI (tm + 0))), (8, .int (nI 0)), (10, .int (nI ((on j) / 1))), (0, .ref (ad 9 0)), (1, .ref (ad 12 0)), (2, .int (kB Pm)), (3, .int (nI 0)), (4, .int (nI 1)), (5, .int (nI k))]) hx hb dL_promised_131 hl (k := 10) rfl (nI_add _ _) (by decide) rfl (fun ls hl => ?_)
                    refine lv_goto (tgt := 57) hx hb dL_promised_134 (by decide) ?_
                    exact ih_57 (j + 1) (tm + 0) (nI ((on j) / 1)) false (by omega) (by omega) (by omega) (q_stm0 (by omega) h_74 htm hlt9 h_116) (q_slt (pd := (fun q => on q / 1)) (by omega) h_74).symm (q_slo (by omega) h_74 hlo (by simp [h_88])) _ _ hW hS _ (lv_sub hl [5, 6, 7, 8, 9, 10, 2, 1, 3, 0] rfl)
                  · refine lv_iconst (v := nI 1) hx hb dL_promised_119 (by decide) ?_
                    refine lv_goto (tgt := 124) hx hb dL_promised_120 (by decide) ?_
                    refine k_iadd hx hb dL_promised_124 ?_
                    refine lv_istore (lv' := [(6, .int (nI (tm + 1))), (8, .int (nI 0)), (10, .int (nI ((on j) / 1))), (0, .ref (ad 9 0)), (1, .ref (ad 12 0)), (2, .int (kB Pm)), (3, .int (nI 0)), (4, .int (nI 1)), (5, .int (nI k)), (7, .int lt), (9, .int (nI j))]) hx hb dL_promised_125 hl (by decide) rfl (fun ls hl => ?_)
                    refine lv_iload hx hb dL_promised_127 (lv_at hl 2 rfl) ?_
                    refine lv_istore (lv' := [(7, .int (nI ((on j) / 1))), (6, .int (nI (tm + 1))), (8, .int (nI 0)), (10, .int (nI ((on j) / 1))), (0, .ref (ad 9 0)), (1, .ref (ad 12 0)), (2, .int (kB Pm)), (3, .int (nI 0)), (4, .int (nI 1)), (5, .int (nI k)), (9, .int (nI j))]) hx hb dL_promised_129 hl (by decide) rfl (fun ls hl => ?_)
                    refine lv_iinc (v := nI (j + 1)) (lv' := [(9, .int (nI (j + 1))), (7, .int (nI ((on j) / 1))), (6, .int (nI (tm + 1))), (8, .int (nI 0)), (10, .int (nI ((on j) / 1))), (0, .ref (ad 9 0)), (1, .ref (ad 12 0)), (2, .int (kB Pm)), (3, .int (nI 0)), (4, .int (nI 1)), (5, .int (nI k))]) hx hb dL_promised_131 hl (k := 10) rfl (nI_add _ _) (by decide) rfl (fun ls hl => ?_)
                    refine lv_goto (tgt := 57) hx hb dL_promised_134 (by decide) ?_
                    exact ih_57 (j + 1) (tm + 1) (nI ((on j) / 1)) false (by omega) (by omega) (by omega) (q_stm (by omega) h_74 htm hlt9 h_116) (q_slt (pd := (fun q => on q / 1)) (by omega) h_74).symm (q_slo (by omega) h_74 hlo (by simp [h_88])) _ _ hW hS _ (lv_sub hl [5, 6, 7, 8, 9, 10, 2, 1, 3, 0] rfl)
                · refine lv_iload hx hb dL_promised_91 (lv_at hl 0 rfl) ?_
                  refine lv_aload_n hx hb dL_promised_93 rfl (lv_at hl 1 rfl) ?_
                  refine lv_iload hx hb dL_promised_94 (lv_at hl 6 rfl) ?_
                  refine k_iald hx hb hK hW (kc_9 g ad t) k rfl (by omega) (by decide) dL_promised_96 ?_
                  refine k_toi (y := nI (on k)) (hA.x0 k (by omega)) ?_
                  refine lv_iload hx hb dL_promised_97 (lv_at hl 5 rfl) ?_
                  refine lv_idiv hx hb dL_promised_99 (by decide) ?_
                  refine k_toi (pk_div (by have := hA.d k (by omega); omega) (by decide) (by decide)) ?_
                  refine k_icmp_eq (tgt := 107) hx hb (a := (on j) / 1) (b := (on k) / 1) (by have := hA.d j (by omega); have := Nat.div_le_self (on j) 1; have := Nat.div_le_self (on j) 7; have := Nat.div_le_self (on j) 28; omega) (by have := hA.d k (by omega); have := Nat.div_le_self (on k) 1; have := Nat.div_le_self (on k) 7; have := Nat.div_le_self (on k) 28; omega) dL_promised_100 (by decide) (fun h_100 => ?_) (fun h_100 => ?_)
                  · refine lv_iconst (v := nI 0) hx hb dL_promised_107 (by decide) ?_
                    refine lv_istore (lv' := [(8, .int (nI 0)), (10, .int (nI ((on j) / 1))), (0, .ref (ad 9 0)), (1, .ref (ad 12 0)), (2, .int (kB Pm)), (3, .int (nI 0)), (4, .int (nI 1)), (5, .int (nI k)), (6, .int (nI tm)), (7, .int lt), (9, .int (nI j))]) hx hb dL_promised_108 hl (by decide) rfl (fun ls hl => ?_)
                    refine lv_iload hx hb dL_promised_110 (lv_at hl 8 rfl) ?_
                    refine lv_iload hx hb dL_promised_112 (lv_at hl 1 rfl) ?_
                    refine lv_iload hx hb dL_promised_114 (lv_at hl 9 rfl) ?_
                    refine lv_icmp_eq (tgt := 123) hx hb dL_promised_116 (by decide) (fun h_116 => ?_) (fun h_116 => ?_)
                    · refine lv_iconst (v := nI 0) hx hb dL_promised_123 (by decide) ?_
                      refine k_iadd hx hb dL_promised_124 ?_
                      refine lv_istore (lv' := [(6, .int (nI (tm + 0))), (8, .int (nI 0)), (10, .int (nI ((on j) / 1))), (0, .ref (ad 9 0)), (1, .ref (ad 12 0)), (2, .int (kB Pm)), (3, .int (nI 0)), (4, .int (nI 1)), (5, .int (nI k)), (7, .int lt), (9, .int (nI j))]) hx hb dL_promised_125 hl (by decide) rfl (fun ls hl => ?_)
                      refine lv_iload hx hb dL_promised_127 (lv_at hl 2 rfl) ?_
                      refine lv_istore (lv' := [(7, .int (nI ((on j) / 1))), (6, .int (nI (tm + 0))), (8, .int (nI 0)), (10, .int (nI ((on j) / 1))), (0, .ref (ad 9 0)), (1, .ref (ad 12 0)), (2, .int (kB Pm)), (3, .int (nI 0)), (4, .int (nI 1)), (5, .int (nI k)), (9, .int (nI j))]) hx hb dL_promised_129 hl (by decide) rfl (fun ls hl => ?_)
                      refine lv_iinc (v := nI (j + 1)) (lv' := [(9, .int (nI (j + 1))), (7, .int (nI ((on j) / 1))), (6, .int (nI (tm + 0))), (8, .int (nI 0)), (10, .int (nI ((on j) / 1))), (0, .ref (ad 9 0)), (1, .ref (ad 12 0)), (2, .int (kB Pm)), (3, .int (nI 0)), (4, .int (nI 1)), (5, .int (nI k))]) hx hb dL_promised_131 hl (k := 10) rfl (nI_add _ _) (by decide) rfl (fun ls hl => ?_)
                      refine lv_goto (tgt := 57) hx hb dL_promised_134 (by decide) ?_
                      exact ih_57 (j + 1) (tm + 0) (nI ((on j) / 1)) false (by omega) (by omega) (by omega) (q_stm0 (by omega) h_74 htm hlt9 h_116) (q_slt (pd := (fun q => on q / 1)) (by omega) h_74).symm (q_slo (by omega) h_74 hlo (by rw [h_88, Bool.true_and]; exact (decide_eq_false (fun q => q h_100)).symm)) _ _ hW hS _ (lv_sub hl [5, 6, 7, 8, 9, 10, 2, 1, 3, 0] rfl)
                    · refine lv_iconst (v := nI 1) hx hb dL_promised_119 (by decide) ?_
                      refine lv_goto (tgt := 124) hx hb dL_promised_120 (by decide) ?_
                      refine k_iadd hx hb dL_promised_124 ?_
                      refine lv_istore (lv' := [(6, .int (nI (tm + 1))), (8, .int (nI 0)), (10, .int (nI ((on j) / 1))), (0, .ref (ad 9 0)), (1, .ref (ad 12 0)), (2, .int (kB Pm)), (3, .int (nI 0)), (4, .int (nI 1)), (5, .int (nI k)), (7, .int lt), (9, .int (nI j))]) hx hb dL_promised_125 hl (by decide) rfl (fun ls hl => ?_)
                      refine lv_iload hx hb dL_promised_127 (lv_at hl 2 rfl) ?_
                      refine lv_istore (lv' := [(7, .int (nI ((on j) / 1))), (6, .int (nI (tm + 1))), (8, .int (nI 0)), (10, .int (nI ((on j) / 1))), (0, .ref (ad 9 0)), (1, .ref (ad 12 0)), (2, .int (kB Pm)), (3, .int (nI 0)), (4, .int (nI 1)), (5, .int (nI k)), (9, .int (nI j))]) hx hb dL_promised_129 hl (by decide) rfl (fun ls hl => ?_)
                      refine lv_iinc (v := nI (j + 1)) (lv' := [(9, .int (nI (j + 1))), (7, .int (nI ((on j) / 1))), (6, .int (nI (tm + 1))), (8, .int (nI 0)), (10, .int (nI ((on j) / 1))), (0, .ref (ad 9 0)), (1, .ref (ad 12 0)), (2, .int (kB Pm)), (3, .int (nI 0)), (4, .int (nI 1)), (5, .int (nI k))]) hx hb dL_promised_131 hl (k := 10) rfl (nI_add _ _) (by decide) rfl (fun ls hl => ?_)
                      refine lv_goto (tgt := 57) hx hb dL_promised_134 (by decide) ?_
                      exact ih_57 (j + 1) (tm + 1) (nI ((on j) / 1)) false (by omega) (by omega) (by omega) (q_stm (by omega) h_74 htm hlt9 h_116) (q_slt (pd := (fun q => on q / 1)) (by omega) h_74).symm (q_slo (by omega) h_74 hlo (by rw [h_88, Bool.true_and]; exact (decide_eq_false (fun q => q h_100)).symm)) _ _ hW hS _ (lv_sub hl [5, 6, 7, 8, 9, 10, 2, 1, 3, 0] rfl)
                  · refine lv_iconst (v := nI 1) hx hb dL_promised_103 (by decide) ?_
                    refine lv_goto (tgt := 108) hx hb dL_promised_104 (by decide) ?_
                    refine lv_istore (lv' := [(8, .int (nI 1)), (10, .int (nI ((on j) / 1))), (0, .ref (ad 9 0)), (1, .ref (ad 12 0)), (2, .int (kB Pm)), (3, .int (nI 0)), (4, .int (nI 1)), (5, .int (nI k)), (6, .int (nI tm)), (7, .int lt), (9, .int (nI j))]) hx hb dL_promised_108 hl (by decide) rfl (fun ls hl => ?_)
                    refine lv_iload hx hb dL_promised_110 (lv_at hl 8 rfl) ?_
                    refine lv_iload hx hb dL_promised_112 (lv_at hl 1 rfl) ?_
                    refine lv_iload hx hb dL_promised_114 (lv_at hl 9 rfl) ?_
                    refine lv_icmp_eq (tgt := 123) hx hb dL_promised_116 (by decide) (fun h_116 => ?_) (fun h_116 => ?_)
                    · refine lv_iconst (v := nI 0) hx hb dL_promised_123 (by decide) ?_
                      refine k_iadd hx hb dL_promised_124 ?_
                      refine lv_istore (lv' := [(6, .int (nI (tm + 0))), (8, .int (nI 1)), (10, .int (nI ((on j) / 1))), (0, .ref (ad 9 0)), (1, .ref (ad 12 0)), (2, .int (kB Pm)), (3, .int (nI 0)), (4, .int (nI 1)), (5, .int (nI k)), (7, .int lt), (9, .int (nI j))]) hx hb dL_promised_125 hl (by decide) rfl (fun ls hl => ?_)
                      refine lv_iload hx hb dL_promised_127 (lv_at hl 2 rfl) ?_
                      refine lv_istore (lv' := [(7, .int (nI ((on j) / 1))), (6, .int (nI (tm + 0))), (8, .int (nI 1)), (10, .int (nI ((on j) / 1))), (0, .ref (ad 9 0)), (1, .ref (ad 12 0)), (2, .int (kB Pm)), (3, .int (nI 0)), (4, .int (nI 1)), (5, .int (nI k)), (9, .int (nI j))]) hx hb dL_promised_129 hl (by decide) rfl (fun ls hl => ?_)
                      refine lv_iinc (v := nI (j + 1)) (lv' := [(9, .int (nI (j + 1))), (7, .int (nI ((on j) / 1))), (6, .int (nI (tm + 0))), (8, .int (nI 1)), (10, .int (nI ((on j) / 1))), (0, .ref (ad 9 0)), (1, .ref (ad 12 0)), (2, .int (kB Pm)), (3, .int (nI 0)), (4, .int (nI 1)), (5, .int (nI k))]) hx hb dL_promised_131 hl (k := 10) rfl (nI_add _ _) (by decide) rfl (fun ls hl => ?_)
                      refine lv_goto (tgt := 57) hx hb dL_promised_134 (by decide) ?_
                      exact ih_57 (j + 1) (tm + 0) (nI ((on j) / 1)) true (by omega) (by omega) (by omega) (q_stm0 (by omega) h_74 htm hlt9 h_116) (q_slt (pd := (fun q => on q / 1)) (by omega) h_74).symm (q_slo (by omega) h_74 hlo (by rw [h_88, Bool.true_and]; exact (decide_eq_true h_100).symm)) _ _ hW hS _ (lv_sub hl [5, 6, 7, 8, 9, 10, 2, 1, 3, 0] rfl)
                    · refine lv_iconst (v := nI 1) hx hb dL_promised_119 (by decide) ?_
                      refine lv_goto (tgt := 124) hx hb dL_promised_120 (by decide) ?_
                      refine k_iadd hx hb dL_promised_124 ?_
                      refine lv_istore (lv' := [(6, .int (nI (tm + 1))), (8, .int (nI 1)), (10, .int (nI ((on j) / 1))), (0, .ref (ad 9 0)), (1, .ref (ad 12 0)), (2, .int (kB Pm)), (3, .int (nI 0)), (4, .int (nI 1)), (5, .int (nI k)), (7, .int lt), (9, .int (nI j))]) hx hb dL_promised_125 hl (by decide) rfl (fun ls hl => ?_)
                      refine lv_iload hx hb dL_promised_127 (lv_at hl 2 rfl) ?_
                      refine lv_istore (lv' := [(7, .int (nI ((on j) / 1))), (6, .int (nI (tm + 1))), (8, .int (nI 1)), (10, .int (nI ((on j) / 1))), (0, .ref (ad 9 0)), (1, .ref (ad 12 0)), (2, .int (kB Pm)), (3, .int (nI 0)), (4, .int (nI 1)), (5, .int (nI k)), (9, .int (nI j))]) hx hb dL_promised_129 hl (by decide) rfl (fun ls hl => ?_)
                      refine lv_iinc (v := nI (j + 1)) (lv' := [(9, .int (nI (j + 1))), (7, .int (nI ((on j) / 1))), (6, .int (nI (tm + 1))), (8, .int (nI 1)), (10, .int (nI ((on j) / 1))), (0, .ref (ad 9 0)), (1, .ref (ad 12 0)), (2, .int (kB Pm)), (3, .int (nI 0)), (4, .int (nI 1)), (5, .int (nI k))]) hx hb dL_promised_131 hl (k := 10) rfl (nI_add _ _) (by decide) rfl (fun ls hl => ?_)
                      refine lv_goto (tgt := 57) hx hb dL_promised_134 (by decide) ?_
                      exact ih_57 (j + 1) (tm + 1) (nI ((on j) / 1)) true (by omega) (by omega) (by omega) (q_stm (by omega) h_74 htm hlt9 h_116) (q_slt (pd := (fun q => on q / 1)) (by omega) h_74).symm (q_slo (by omega) h_74 hlo (by rw [h_88, Bool.true_and]; exact (decide_eq_true h_100).symm)) _ _ hW hS _ (lv_sub hl [5, 6, 7, 8, 9, 10, 2, 1, 3, 0] rfl)
        exact hloop_57 (N + 1) (k + 1) 0 (-1) true (by omega) (by omega) (by omega) (q_in _ (Nat.le_refl _)).2.1.symm (q_in _ (Nat.le_refl _)).1.symm (q_in _ (Nat.le_refl _)).2.2.symm _ _ hW hS _ (lv_sub hl [4, 5, 6, 7, 8, 9, 3, 2, 1, 0] rfl)
  exact hloop_34 (N + 1) 0 (fun j => false) (by omega) (Nat.zero_le _) q_pk_in _ _ hW hS _ (lv_sub hl [4, 5, 3, 2, 1, 0] rfl)
abbrev rm_L_needed : Room := { frames := 1, cells := 0, slots := 0, locals := 30 }
set_option maxRecDepth 100000 in
set_option maxHeartbeats 4000000 in
theorem c_L_needed (l : Launch) (hlt : l.stackTraces = false) (g : k_g) (ad : k_AD) (t : k_T) (N : Nat) (th : Nat → Bool) (on : Nat → Nat) (bs : Nat → Option Nat) (r1 : Nat) (r2 : Nat) (r3 : Nat) (hA : q_A t N th on bs) (hR : q_R t r1 r2 r3) : Met l yL_needed wsL_needed rm_L_needed (va_Pc [.ref (ad 9 0), .ref (ad 12 0)] (k_I g (k_ct g ad t) ad)) (va_Qi (fun r u => r = kB (k_nd th (k_P th on N r1 r2 r3) bs N) ∧ u = t) (fun u U => k_H g ad u U.heap) (k_A g)) 0 0 (k_A g) := by
  refine k_met (cc := cL_needed) (maxL := 5) (ret := (some .int)) (by decide) rfl (Nat.le_of_ble_eq_true rfl) (fun p e s m args below meth c Q ls hQ hx hb hr hml hts hown hlk hin hK hZ hN hW hS hl => ?_)
  have hown : s.vm.findClass RL = some m.cls := hown
  have hW : k_H g ad t s.heap := hW
  have hl : lv_has ls 5 [(0, .ref (ad 9 0)), (1, .ref (ad 12 0))] := hl
  have hN9 := hA.n14
  refine lv_aload_n hx hb dL_needed_0 rfl (lv_at hl 0 rfl) ?_
  refine lv_aload_n hx hb dL_needed_1 rfl (lv_at hl 1 rfl) ?_
  refine k_ci (va_runS (As := [.ref (ad 9 0), .ref (ad 12 0)]) (rest := []) ⟨hx, hb, hml, hown, hts⟩ (c_L_promised l hlt g ad t N th on bs r1 r2 r3 hA hR) (va_cwS 2 hts gL_needed_L_promised rfl rfl rfl (by decide +kernel) ⟨(Nat.le_of_ble_eq_true rfl), (Nat.le_of_ble_eq_true rfl)⟩) ⟨k_blind, fun U hU hw => ⟨rfl, k_I.of hK hZ hN hS hW hU hw⟩⟩ rfl rfl hl.1 rfl (lv_room (Nat.le_of_ble_eq_true rfl)) dL_needed_2 ⟨(Nat.le_of_ble_eq_true rfl), (Nat.le_of_ble_eq_true rfl)⟩) hS (fun r u H locs hpo hW hS => ?_)
  obtain ⟨hr9, hu9⟩ := hpo; replace hu9 := hu9.symm; subst hu9; replace hr9 := hr9.symm; subst hr9
  refine lv_istore_n (lv' := [(2, .int (kB (k_P th on N r1 r2 r3))), (0, .ref (ad 9 0)), (1, .ref (ad 12 0))]) hx hb dL_needed_5 rfl hl (by decide) rfl (fun ls hl => ?_)
  refine lv_iconst (v := nI 0) hx hb dL_needed_6 (by decide) ?_
  refine k_toi (y := kB (fun _ => false)) kB_0.symm ?_
  refine lv_istore_n (lv' := [(3, .int (kB (fun _ => false))), (2, .int (kB (k_P th on N r1 r2 r3))), (0, .ref (ad 9 0)), (1, .ref (ad 12 0))]) hx hb dL_needed_7 rfl hl (by decide) rfl (fun ls hl => ?_)
  refine lv_iconst (v := nI 0) hx hb dL_needed_8 (by decide) ?_
  refine lv_istore (lv' := [(4, .int (nI 0)), (3, .int (kB (fun _ => false))), (2, .int (kB (k_P th on N r1 r2 r3))), (0, .ref (ad 9 0)), (1, .ref (ad 12 0))]) hx hb dL_needed_9 hl (by decide) rfl (fun ls hl => ?_)
  have hloop_11 : ∀ (n : Nat) (k : Nat) (Nd : Nat → Bool), (N < k + n) → (k ≤ N) → (∀ j, Nd j = k_nd th (k_P th on N r1 r2 r3) bs k j) → ∀ (H : Heap) (locs : List Loc), k_H g ad t H → va_S (k_A g) s.heap H locs → ∀ (ls : Array Slot), lv_has ls 5 [(0, .ref (ad 9 0)), (1, .ref (ad 12 0)), (2, .int (kB (k_P th on N r1 r2 r3))), (3, .int (kB Nd)), (4, .int (nI k))] → W p l e rm_L_needed s m args below meth c H locs 0 0 Q (F0 m 11 ls []) := by
    intro n
    induction n with
    | zero =>
      intro k Nd hfu hk hNd
      exact absurd hfu (by omega)
    | succ n ih =>
      intro k Nd hfu hk hNd H locs hW hS ls hl
      refine lv_iload hx hb dL_needed_11 (lv_at hl 4 rfl) ?_
      refine lv_aload_n hx hb dL_needed_13 rfl (lv_at hl 1 rfl) ?_
      refine lv_iconst (v := nI 0) hx hb dL_needed_14 (by decide) ?_
      refine k_iald hx hb hK hW (kc_12 g ad t) 0 rfl (by omega) (by decide) dL_needed_15 ?_
      refine k_toi (y := nI N) hA.m0 ?_
      refine k_icmp_ge (tgt := 48) hx hb (a := k) (b := N) (by omega) (by omega) dL_needed_16 (by decide) (fun h_16 => ?_) (fun h_16 => ?_)
      · refine lv_iload_n hx hb dL_needed_48 rfl (lv_at hl 3 rfl) ?_
        exact k_ri hQ hx hb hr hlk hS hW ⟨congrArg kB (funext fun j => by rw [hNd j, show k = N by omega]), rfl⟩ (Nat.le_of_ble_eq_true rfl) (Nat.le_of_ble_eq_true rfl) dL_needed_49
      · refine lv_iload_n hx hb dL_needed_19 rfl (lv_at hl 3 rfl) ?_
        refine lv_iload_n hx hb dL_needed_20 rfl (lv_at hl 2 rfl) ?_
        refine lv_iload hx hb dL_needed_21 (lv_at hl 4 rfl) ?_
        refine lv_ishr hx hb dL_needed_23 ?_
        refine lv_iconst (v := nI 1) hx hb dL_needed_24 (by decide) ?_
        refine lv_iand hx hb dL_needed_25 ?_
        refine k_toi (y := kb ((k_P th on N r1 r2 r3) k)) (kB_bit (k_P th on N r1 r2 r3) (by omega)) ?_
        refine lv_iconst (v := nI 1) hx hb dL_needed_26 (by decide) ?_
        refine k_b1_ne (tgt := 39) hx hb dL_needed_27 (by decide) (fun h_27 => ?_) (fun h_27 => ?_)
        · refine lv_iconst (v := nI 0) hx hb dL_needed_39 (by decide) ?_
          refine lv_ior hx hb dL_needed_40 ?_
          refine k_toi (y := kB Nd) (kB_or0 Nd) ?_
          refine lv_istore_n (lv' := [(3, .int (kB Nd)), (0, .ref (ad 9 0)), (1, .ref (ad 12 0)), (2, .int (kB (k_P th on N r1 r2 r3))), (4, .int (nI k))]) hx hb dL_needed_41 rfl hl (by decide) rfl (fun ls hl => ?_)
          refine lv_iinc (v := nI (k + 1)) (lv' := [(4, .int (nI (k + 1))), (3, .int (kB Nd)), (0, .ref (ad 9 0)), (1, .ref (ad 12 0)), (2, .int (kB (k_P th on N r1 r2 r3)))]) hx hb dL_needed_42 hl (k := 4) rfl (nI_add _ _) (by decide) rfl (fun ls hl => ?_)
          refine lv_goto (tgt := 11) hx hb dL_needed_45 (by decide) ?_
          exact ih (k + 1) (Nd) (by omega) (by omega) (fun j => by rw [hNd j, k_nd_n (by rw [h_27, Bool.and_false])]) _ _ hW hS _ (lv_sub hl [2, 3, 4, 1, 0] rfl)
        · refine lv_aload_n hx hb dL_needed_30 rfl (lv_at hl 0 rfl) ?_
          refine lv_iload hx hb dL_needed_31 (lv_at hl 4 rfl) ?_
          refine k_ci (va_runS (As := [.ref (ad 9 0), .int (nI k)]) (rest := [.int (kB Nd)]) ⟨hx, hb, hml, hown, hts⟩ (c_L_chain l hlt g ad t k N bs (by omega) hN9 hA.x1 hA.bs) (va_cwS 2 hts gL_needed_L_chain rfl rfl rfl (by decide +kernel) ⟨(Nat.le_of_ble_eq_true rfl), (Nat.le_of_ble_eq_true rfl)⟩) ⟨k_blind, fun U hU hw => ⟨rfl, k_I.of hK hZ hN hS hW hU hw⟩⟩ rfl rfl hl.1 rfl (lv_room (Nat.le_of_ble_eq_true rfl)) dL_needed_33 ⟨(Nat.le_of_ble_eq_true rfl), (Nat.le_of_ble_eq_true rfl)⟩) hS (fun r u H locs hpo hW hS => ?_)
          obtain ⟨hr9, hu9⟩ := hpo; replace hu9 := hu9.symm; subst hu9; replace hr9 := hr9.symm; subst hr9
          refine lv_goto (tgt := 40) hx hb dL_needed_36 (by decide) ?_
          refine lv_ior hx hb dL_needed_40 ?_
          refine k_toi (y := kB (fun j => Nd j || (fun j => (k_cl bs k).contains j) j)) (kB_or Nd (fun j => (k_cl bs k).contains j)) ?_
          refine lv_istore_n (lv' := [(3, .int (kB (fun j => Nd j || (fun j => (k_cl bs k).contains j) j))), (0, .ref (ad 9 0)), (1, .ref (ad 12 0)), (2, .int (kB (k_P th on N r1 r2 r3))), (4, .int (nI k))]) hx hb dL_needed_41 rfl hl (by decide) rfl (fun ls hl => ?_)
          refine lv_iinc (v := nI (k + 1)) (lv' := [(4, .int (nI (k + 1))), (3, .int (kB (fun j => Nd j || (fun j => (k_cl bs k).contains j) j))), (0, .ref (ad 9 0)), (1, .ref (ad 12 0)), (2, .int (kB (k_P th on N r1 r2 r3)))]) hx hb dL_needed_42 hl (k := 4) rfl (nI_add _ _) (by decide) rfl (fun ls hl => ?_)
          refine lv_goto (tgt := 11) hx hb dL_needed_45 (by decide) ?_
          exact ih (k + 1) (fun j => Nd j || (fun j => (k_cl bs k).contains j) j) (by omega) (by omega) (fun j => by show (Nd j || _) = _; rw [hNd j, k_nd_y (k_P_th h_27).1 h_27]) _ _ hW hS _ (lv_sub hl [2, 3, 4, 1, 0] rfl)
  exact hloop_11 (N + 1) 0 (fun _ => false) (by omega) (Nat.zero_le _) (fun j => rfl) _ _ hW hS _ (lv_sub hl [3, 4, 2, 1, 0] rfl)
