theorem lw_noct {n b : Nat} {x e : va_E} (hn : n = 0) (h : (if b < n then some x else none) = some e) : False := by
  subst hn
  rw [if_neg (Nat.not_lt_zero b)] at h
  cases h
/-- the first state -/
def k_t0 : k_T := ((fun _ => nI 0, fun _ => 0, fun _ => nI 0, 0, 0), (fun _ => false, 0, 3, 2, 1, fun j => if j < 365 then j % 5 else 0), (0, fun _ => 0, fun _ => none, fun _ => 0, fun _ _ => nI 0, fun _ => 0, fun _ => false, fun _ => false, fun _ => false, fun _ => false, fun _ => false), (fun _ => nI 0, fun _ => nI 0, fun _ => nI 0, fun _ => nI 0, fun _ => nI 0))
set_option maxRecDepth 100000 in
set_option maxHeartbeats 4000000 in
/-- the first world -/
theorem lw_first {g : k_g} {G : k_G} {ad : k_AD} {H : Heap} (hW : k_Wd g G ad H) (e0 : G 0 0 = some (.inr (4, [.ref (ad 1 0), .ref (ad 5 0), .ref (ad 7 0), .int (nI (x_d k_t0))]))) (e1 : G 1 0 = some (.inr (1, [.ref (ad 2 0), .ref (ad 3 0), .ref (ad 4 0), .int (nI (f_n k_t0))]))) (e2 : G 2 0 = some (.inl (g.2.1 0, 10, .inl (f_c k_t0)))) (e3 : G 3 0 = some (.inl (g.2.1 0, 300, .inl (fun j => nI (f_lf k_t0 j))))) (e4 : G 4 0 = some (.inl (g.2.1 0, 300, .inl (f_lt k_t0)))) (e5 : G 5 0 = some (.inr (3, [.ref (ad 6 0), .int (nI (s_md k_t0)), .int (nI (s_r1 k_t0)), .int (nI (s_r2 k_t0)), .int (nI (s_r3 k_t0))]))) (e6 : G 6 0 = some (.inl (g.2.1 3, 60, .inr (.inr (.inr (.inr (fun j => if s_th k_t0 j = true then some (ad 25 j) else none))))))) (e7 : G 7 0 = some (.inr (2, [.ref (ad 8 0)]))) (e8 : G 8 0 = some (.inl (g.2.1 0, 365, .inl (fun j => nI (r_p k_t0 j))))) (e9 : G 9 0 = some (.inl (g.2.1 0, 56, .inl (w_x k_t0)))) (e10 : G 10 0 = some (.inl (g.2.1 0, 56, .inl (w_w k_t0)))) (e11 : G 11 0 = some (.inl (g.2.1 0, 4, .inl (w_c k_t0)))) (e12 : G 12 0 = some (.inl (g.2.1 0, 8, .inl (w_m k_t0)))) (e13 : G 13 0 = some (.inl (g.2.1 0, 64, .inl (w_r k_t0)))) : k_H g ad k_t0 H := by
  refine hW.to (fun a b e h => ?_)
  match a, b, h with
  | 0, 0, h => exact e0.trans h
  | 0, b + 1, h => cases h
  | 1, 0, h => exact e1.trans h
  | 1, b + 1, h => cases h
  | 2, 0, h => exact e2.trans h
  | 2, b + 1, h => cases h
  | 3, 0, h => exact e3.trans h
  | 3, b + 1, h => cases h
  | 4, 0, h => exact e4.trans h
  | 4, b + 1, h => cases h
  | 5, 0, h => exact e5.trans h
  | 5, b + 1, h => cases h
  | 6, 0, h => exact e6.trans h
  | 6, b + 1, h => cases h
  | 7, 0, h => exact e7.trans h
  | 7, b + 1, h => cases h
  | 8, 0, h => exact e8.trans h
  | 8, b + 1, h => cases h
  | 9, 0, h => exact e9.trans h
  | 9, b + 1, h => cases h
  | 10, 0, h => exact e10.trans h
  | 10, b + 1, h => cases h
  | 11, 0, h => exact e11.trans h
  | 11, b + 1, h => cases h
  | 12, 0, h => exact e12.trans h
  | 12, b + 1, h => cases h
  | 13, 0, h => exact e13.trans h
  | 13, b + 1, h => cases h
  | 14, b, h => cases h
  | 15, b, h => cases h
  | 16, b, h => cases h
  | 17, b, h => cases h
  | 18, b, h => cases h
  | 19, b, h => cases h
  | 20, b, h => cases h
  | 21, b, h => cases h
  | 22, b, h => cases h
  | 23, b, h => cases h
  | 24, b, h => cases h
  | 25, b, h => exact absurd (show (none : Option va_E) = some e from h) (fun q => by cases q)
  | 26, b, h => exact absurd (show (none : Option va_E) = some e from h) (fun q => by cases q)
  | k + 27, b, h => cases h
theorem q_J0 {R : Nat → Int32} (hR : ∀ i, i < 64 → R i = nI (i % 5)) : q_J 0 (set_w_r (set_w_m k_t0 (va_up (va_up (va_up (w_m k_t0) 5 (nI 3)) 6 (nI 2)) 7 (nI 1))) R) := by
  refine ⟨Nat.zero_le _, fun _ _ => rfl, fun _ _ _ => rfl, fun _ _ => ⟨0, by decide, rfl⟩, (fun k h => absurd h (Nat.not_lt_zero k)), fun _ _ => rfl, Nat.zero_le _, rfl, Nat.zero_le _, (fun j h => by cases h), (by show 3 ≤ 30; decide), (by show 2 ≤ 30; decide), (by show 1 ≤ 30; decide), ?_, ?_, (fun k h => absurd h (Nat.not_lt_zero k)), (fun i j _ h => absurd h (Nat.not_lt_zero j)), (fun k b h _ => absurd h (Nat.not_lt_zero k)), (fun k b h _ => by cases h), (fun k h => absurd h (Nat.not_lt_zero k)), (fun k h => absurd h (Nat.not_lt_zero k)), fun _ _ => rfl, fun _ _ => rfl, (fun k h _ => absurd h (Nat.not_lt_zero k)), (fun k h => absurd h (Nat.not_lt_zero k)), rfl, rfl, kB_0.symm, kB_0.symm, kB_0.symm, rfl, rfl, rfl, (fun k h => absurd h (Nat.not_lt_zero k)), (fun k h => absurd h (Nat.not_lt_zero k)), (fun k h => absurd h (Nat.not_lt_zero k)), (fun k h => absurd h (Nat.not_lt_zero k)), (fun k h => absurd h (Nat.not_lt_zero k)), ?_⟩
  · intro i _
    show (if i < 365 then i % 5 else 0) < 5
    by_cases h : i < 365
    · rw [if_pos h]; exact Nat.mod_lt _ (by decide)
    · rw [if_neg h]; decide
  · intro k hk
    show (if k < 365 then k % 5 else 0) ≠ (if k + 1 < 365 then (k + 1) % 5 else 0)
    rw [if_pos (by omega), if_pos (by omega)]
    omega
  · intro k hk
    show R k = nI (if k < 365 then k % 5 else 0)
    rw [hR k hk, if_pos (by omega)]
abbrev rm_L_holds : Room := { frames := 10, cells := 100000, slots := 600000, locals := 195 }
set_option maxRecDepth 100000 in
set_option maxHeartbeats 8000000 in
/-- the law's rounds: all is told -/
theorem c_L_holds (l : Launch) (hlt : l.stackTraces = false) (g : k_g) (b L : Nat) (xs : Nat → Int32) (hbg : b < g.2.2) (hL : L ≤ 260) : Met l yL_holds wsL_holds rm_L_holds (va_Pc [.ref b] (fun U => k_I g (fun _ _ => none) (fun _ _ => 0) U ∧ va_X b L xs U U.heap)) (va_Qi (S := k_T × k_AD) (fun r _ => r = nI 1) (fun u U => k_H g u.2 u.1 U.heap) (k_A g)) 100000 600000 (k_A g) := by
  refine k_metS (cc := cL_holds) (maxL := 9) (ret := (some .boolean)) (by decide) rfl (Nat.le_of_ble_eq_true rfl) (fun p e s m args below meth c Q ls hQ hx hb hr hml hts hown hlk hin hK hZ hN hW hX hS hl => ?_)
  have hown : s.vm.findClass RL = some m.cls := hown
  have hW : k_Wd g (fun _ _ => none) (fun _ _ => 0) s.heap := hW
  have hl : lv_has ls 9 [(0, .ref b)] := hl
  have hinX4 : ∀ w ∈ wsX40, w ∈ wsL_holds := by decide +kernel
  refine k_new (own := RL) (C := RX4) (T := TX4) (N := 4) (ci := 4) (fs := [.null, .null, .null, .int (nI 0)]) hx hb hts hinX4 tyX4 tyX4_ok hown (hts (.classLink RL 23 RX4) (by decide +kernel)) (hts (.instantiable RX4 4) (by decide +kernel)) (hts (.initialized RX4) (by decide +kernel)) hK hN hW hS 0 0 rfl rfl dfX4 (Nat.le_of_ble_eq_true rfl) (Nat.le_of_ble_eq_true rfl) dL_holds_0 (fun q0 H hW hS => ?_)
  refine lv_dup hx hb dL_holds_3 rfl ?_
  refine k_cvG (va_runI (As := []) (rest := [.ref q0]) ⟨hx, hb, hml, hown, hts⟩ (c_X4_init l hlt g _ _ k_up_at rfl rfl rfl rfl rfl rfl rfl rfl) (cwI 0 hts gL_holds_X4_init rfl rfl rfl (hts (.initialized RX4) (by decide +kernel)) (hts (.methodLink RL 135 yX4_init) (by decide +kernel)) (hts (.instanceMethod yX4_init) (by decide +kernel)) rfl (by decide +kernel) ⟨(Nat.le_of_ble_eq_true rfl), (Nat.le_of_ble_eq_true rfl)⟩) ⟨k_blind, fun U hU hw => ⟨rfl, k_I.of hK hZ hN hS hW hU hw⟩⟩ rfl rfl hl.1 rfl (lv_room (Nat.le_of_ble_eq_true rfl)) dL_holds_4 ⟨(Nat.le_of_ble_eq_true rfl), (Nat.le_of_ble_eq_true rfl)⟩) hS (fun u H locs hpo hW hS => ?_)
  obtain ⟨G1, ad1⟩ := u
  have hW : k_Wd g G1 ad1 H := hW
  obtain ⟨q1, q2, q3, q4, q5, q6, q7, q8, hu9⟩ := hpo
  cases hu9
  refine lv_astore_n (lv' := [(1, .ref q0), (0, .ref b)]) hx hb dL_holds_7 rfl hl (by decide) rfl (fun ls hl => ?_)
  refine lv_bipush (v := nI 56) hx hb dL_holds_8 (by decide) ?_
  refine k_newa hx hb 0 (ty := .int) rfl rfl (fun C9 h9 => by cases h9) (hts (.arrayClass .int) (by decide +kernel)) hK hN hW hS 9 0 rfl 56 (x := .inl (fun _ => nI 0)) (fun _ => rfl) rfl (by decide) (Nat.le_of_ble_eq_true rfl) (Nat.le_of_ble_eq_true rfl) (Nat.le_of_ble_eq_true rfl) dL_holds_10 (fun q9 H hW hS => ?_)
  refine lv_astore_n (lv' := [(2, .ref q9), (1, .ref q0), (0, .ref b)]) hx hb dL_holds_12 rfl hl (by decide) rfl (fun ls hl => ?_)
  refine lv_bipush (v := nI 56) hx hb dL_holds_13 (by decide) ?_
  refine k_newa hx hb 0 (ty := .int) rfl rfl (fun C9 h9 => by cases h9) (hts (.arrayClass .int) (by decide +kernel)) hK hN hW hS 10 0 rfl 56 (x := .inl (fun _ => nI 0)) (fun _ => rfl) rfl (by decide) (Nat.le_of_ble_eq_true rfl) (Nat.le_of_ble_eq_true rfl) (Nat.le_of_ble_eq_true rfl) dL_holds_15 (fun q10 H hW hS => ?_)
  refine lv_astore_n (lv' := [(3, .ref q10), (2, .ref q9), (1, .ref q0), (0, .ref b)]) hx hb dL_holds_17 rfl hl (by decide) rfl (fun ls hl => ?_)
  refine lv_iconst (v := nI 4) hx hb dL_holds_18 (by decide) ?_
  refine k_newa hx hb 0 (ty := .int) rfl rfl (fun C9 h9 => by cases h9) (hts (.arrayClass .int) (by decide +kernel)) hK hN hW hS 11 0 rfl 4 (x := .inl (fun _ => nI 0)) (fun _ => rfl) rfl (by decide) (Nat.le_of_ble_eq_true rfl) (Nat.le_of_ble_eq_true rfl) (Nat.le_of_ble_eq_true rfl) dL_holds_19 (fun q11 H hW hS => ?_)
  refine lv_astore (lv' := [(4, .ref q11), (3, .ref q10), (2, .ref q9), (1, .ref q0), (0, .ref b)]) hx hb dL_holds_21 hl (by decide) rfl (fun ls hl => ?_)
  refine lv_bipush (v := nI 8) hx hb dL_holds_23 (by decide) ?_
  refine k_newa hx hb 0 (ty := .int) rfl rfl (fun C9 h9 => by cases h9) (hts (.arrayClass .int) (by decide +kernel)) hK hN hW hS 12 0 rfl 8 (x := .inl (fun _ => nI 0)) (fun _ => rfl) rfl (by decide) (Nat.le_of_ble_eq_true rfl) (Nat.le_of_ble_eq_true rfl) (Nat.le_of_ble_eq_true rfl) dL_holds_25 (fun q12 H hW hS => ?_)
  refine lv_astore (lv' := [(5, .ref q12), (4, .ref q11), (3, .ref q10), (2, .ref q9), (1, .ref q0), (0, .ref b)]) hx hb dL_holds_27 hl (by decide) rfl (fun ls hl => ?_)
  refine lv_bipush (v := nI 64) hx hb dL_holds_29 (by decide) ?_
  refine k_newa hx hb 0 (ty := .int) rfl rfl (fun C9 h9 => by cases h9) (hts (.arrayClass .int) (by decide +kernel)) hK hN hW hS 13 0 rfl 64 (x := .inl (fun _ => nI 0)) (fun _ => rfl) rfl (by decide) (Nat.le_of_ble_eq_true rfl) (Nat.le_of_ble_eq_true rfl) (Nat.le_of_ble_eq_true rfl) dL_holds_31 (fun q13 H hW hS => ?_)
  refine lv_astore (lv' := [(6, .ref q13), (5, .ref q12), (4, .ref q11), (3, .ref q10), (2, .ref q9), (1, .ref q0), (0, .ref b)]) hx hb dL_holds_33 hl (by decide) rfl (fun ls hl => ?_)
  have hW := lw_first hW rfl rfl rfl rfl rfl rfl rfl rfl rfl rfl rfl rfl rfl rfl
  obtain ⟨ad, hW, hl⟩ : ∃ ad : k_AD, k_H g ad k_t0 H ∧ lv_has ls 9 [(6, .ref (ad 13 0)), (5, .ref (ad 12 0)), (4, .ref (ad 11 0)), (3, .ref (ad 10 0)), (2, .ref (ad 9 0)), (1, .ref (ad 0 0)), (0, .ref b)] := ⟨_, hW, hl⟩
  refine W.widen (k := 2000) (n := 20000) (Nat.le_of_ble_eq_true rfl) (Nat.le_of_ble_eq_true rfl) ?_
  refine lv_aload hx hb dL_holds_35 (lv_at hl 1 rfl) ?_
  refine lv_iconst (v := nI 5) hx hb dL_holds_37 (by decide) ?_
  refine lv_iconst (v := nI 3) hx hb dL_holds_38 (by decide) ?_
  refine k_iast hx hb hK hW hS (kc_12 g ad k_t0) 5 rfl (by omega) (by decide) dL_holds_39 (fun H locs hW hS => ?_)
  have hW : k_H g ad (set_w_m k_t0 (va_up (w_m k_t0) 5 (nI 3))) H := kt_w_m (t := k_t0) 5 (nI 3) rfl hW
  refine lv_aload hx hb dL_holds_40 (lv_at hl 1 rfl) ?_
  refine lv_bipush (v := nI 6) hx hb dL_holds_42 (by decide) ?_
  refine lv_iconst (v := nI 2) hx hb dL_holds_44 (by decide) ?_
  refine k_iast hx hb hK hW hS (kc_12 g ad (set_w_m k_t0 (va_up (w_m k_t0) 5 (nI 3)))) 6 rfl (by omega) (by decide) dL_holds_45 (fun H locs hW hS => ?_)
  have hW : k_H g ad (set_w_m k_t0 (va_up (va_up (w_m k_t0) 5 (nI 3)) 6 (nI 2))) H := kt_w_m (t := set_w_m k_t0 (va_up (w_m k_t0) 5 (nI 3))) 6 (nI 2) rfl hW
  refine lv_aload hx hb dL_holds_46 (lv_at hl 1 rfl) ?_
  refine lv_bipush (v := nI 7) hx hb dL_holds_48 (by decide) ?_
  refine lv_iconst (v := nI 1) hx hb dL_holds_50 (by decide) ?_
  refine k_iast hx hb hK hW hS (kc_12 g ad (set_w_m k_t0 (va_up (va_up (w_m k_t0) 5 (nI 3)) 6 (nI 2)))) 7 rfl (by omega) (by decide) dL_holds_51 (fun H locs hW hS => ?_)
  have hW : k_H g ad (set_w_m k_t0 (va_up (va_up (va_up (w_m k_t0) 5 (nI 3)) 6 (nI 2)) 7 (nI 1))) H := kt_w_m (t := set_w_m k_t0 (va_up (va_up (w_m k_t0) 5 (nI 3)) 6 (nI 2))) 7 (nI 1) rfl hW
  refine lv_iconst (v := nI 0) hx hb dL_holds_52 (by decide) ?_
  refine lv_istore (lv' := [(7, .int (nI 0)), (6, .ref (ad 13 0)), (5, .ref (ad 12 0)), (4, .ref (ad 11 0)), (3, .ref (ad 10 0)), (2, .ref (ad 9 0)), (1, .ref (ad 0 0)), (0, .ref b)]) hx hb dL_holds_53 hl (by decide) rfl (fun ls hl => ?_)
  have hloop_55 : ∀ (n : Nat) (k : Nat) (R9 : Nat → Int32), (64 < k + n) → (k ≤ 64) → (∀ i, i < k → R9 i = nI (i % 5)) → ∀ (H : Heap) (locs : List Loc), k_H g ad (set_w_r (set_w_m k_t0 (va_up (va_up (va_up (w_m k_t0) 5 (nI 3)) 6 (nI 2)) 7 (nI 1))) R9) H → va_S (k_A g) s.heap H locs → ∀ (ls : Array Slot), lv_has ls 9 [(0, .ref b), (1, .ref (ad 0 0)), (2, .ref (ad 9 0)), (3, .ref (ad 10 0)), (4, .ref (ad 11 0)), (5, .ref (ad 12 0)), (6, .ref (ad 13 0)), (7, .int (nI k))] → W p l e rm_L_holds s m args below meth c H locs 2000 20000 Q (F0 m 55 ls []) := by
    intro n
    induction n with
    | zero =>
      intro k R9 hfu hk hR
      exact absurd hfu (by omega)
    | succ n ih =>
      intro k R9 hfu hk hR H locs hW hS ls hl
      refine lv_iload hx hb dL_holds_55 (lv_at hl 7 rfl) ?_
      refine lv_bipush (v := nI 64) hx hb dL_holds_57 (by decide) ?_
      refine k_icmp_ge (tgt := 77) hx hb (a := k) (b := 64) (by omega) (by decide) dL_holds_59 (by decide) (fun h_59 => ?_) (fun h_59 => ?_)
      · refine lv_iconst (v := nI 1) hx hb dL_holds_77 (by decide) ?_
        refine lv_istore (lv' := [(7, .int (nI 1)), (0, .ref b), (1, .ref (ad 0 0)), (2, .ref (ad 9 0)), (3, .ref (ad 10 0)), (4, .ref (ad 11 0)), (5, .ref (ad 12 0)), (6, .ref (ad 13 0))]) hx hb dL_holds_78 hl (by decide) rfl (fun ls hl => ?_)
        refine lv_iconst (v := nI 0) hx hb dL_holds_80 (by decide) ?_
        refine lv_istore (lv' := [(8, .int (nI 0)), (7, .int (nI 1)), (0, .ref b), (1, .ref (ad 0 0)), (2, .ref (ad 9 0)), (3, .ref (ad 10 0)), (4, .ref (ad 11 0)), (5, .ref (ad 12 0)), (6, .ref (ad 13 0))]) hx hb dL_holds_81 hl (by decide) rfl (fun ls hl => ?_)
        have hloop_83 : ∀ (n : Nat) (e9 : Nat) (t : k_T) (ad : k_AD), (110 < e9 + n) → (e9 ≤ 110) → (q_J e9 t) → ∀ (H : Heap) (locs : List Loc), k_H g ad t H → va_S (k_A g) s.heap H locs → ∀ (ls : Array Slot), lv_has ls 9 [(0, .ref b), (1, .ref (ad 0 0)), (2, .ref (ad 9 0)), (3, .ref (ad 10 0)), (4, .ref (ad 11 0)), (5, .ref (ad 12 0)), (6, .ref (ad 13 0)), (7, .int (nI 1)), (8, .int (nI e9))] → W p l e rm_L_holds s m args below meth c H locs (2000 + 800 * e9) (20000 + 5000 * e9) Q (F0 m 83 ls []) := by
          intro n
          induction n with
          | zero =>
            intro e9 t ad hfu he hJ
            exact absurd hfu (by omega)
          | succ n ih_83 =>
            intro e9 t ad hfu he hJ H locs hW hS ls hl
            refine lv_iload hx hb dL_holds_83 (lv_at hl 8 rfl) ?_
            refine lv_bipush (v := nI 110) hx hb dL_holds_85 (by decide) ?_
            refine k_icmp_ge (tgt := 166) hx hb (a := e9) (b := 110) (by omega) (by decide) dL_holds_87 (by decide) (fun h_87 => ?_) (fun h_87 => ?_)
            · refine lv_iload hx hb dL_holds_166 (lv_at hl 7 rfl) ?_
              refine lv_if_eq (tgt := 188) hx hb dL_holds_168 (by decide) (fun h_168 => absurd h_168 (by decide)) (fun h_168 => ?_)
              refine lv_aload_n hx hb dL_holds_171 rfl (lv_at hl 1 rfl) ?_
              refine lv_aload_n hx hb dL_holds_172 rfl (lv_at hl 2 rfl) ?_
              refine lv_aload_n hx hb dL_holds_173 rfl (lv_at hl 3 rfl) ?_
              refine lv_aload hx hb dL_holds_174 (lv_at hl 5 rfl) ?_
              refine lv_aload hx hb dL_holds_176 (lv_at hl 6 rfl) ?_
              refine k_ci (va_runS (As := [.ref (ad 0 0), .ref (ad 9 0), .ref (ad 10 0), .ref (ad 12 0), .ref (ad 13 0)]) (rest := []) ⟨hx, hb, hml, hown, hts⟩ (c_L_isTold l hlt g ad t e9 hJ (by omega)) (va_cwS 5 hts gL_holds_L_isTold rfl rfl rfl (by decide +kernel) ⟨(Nat.le_of_ble_eq_true rfl), (Nat.le_of_ble_eq_true rfl)⟩) ⟨k_blind, fun U hU hw => ⟨rfl, k_I.of hK hZ hN hS hW hU hw⟩⟩ rfl rfl hl.1 rfl (lv_room (Nat.le_of_ble_eq_true rfl)) dL_holds_178 ⟨(by show (2000 + 800 * e9 + 0) + 640 ≤ 100000; omega), (by show (20000 + 5000 * e9 + 0) + 3840 ≤ 600000; omega)⟩) hS (fun r u H locs hpo hW hS => ?_)
              obtain ⟨hr9, P178, N178, hu9⟩ := hpo; replace hu9 := hu9.symm; subst hu9; replace hr9 := hr9.symm; subst hr9
              have hW : k_H g ad (set_o_nd (set_o_pm t P178) N178) H := hW
              refine lv_if_eq (tgt := 188) hx hb dL_holds_181 (by decide) (fun h_181 => absurd h_181 (by decide)) (fun h_181 => ?_)
              refine lv_iconst (v := nI 1) hx hb dL_holds_184 (by decide) ?_
              refine lv_goto (tgt := 189) hx hb dL_holds_185 (by decide) ?_
              exact k_rzA hQ hx hb hr rfl hlk hS hW rfl (by omega) (by omega) dL_holds_189
            · refine lv_iload hx hb dL_holds_90 (lv_at hl 7 rfl) ?_
              refine lv_if_eq (tgt := 166) hx hb dL_holds_92 (by decide) (fun h_92 => absurd h_92 (by decide)) (fun h_92 => ?_)
              refine lv_aload_n hx hb dL_holds_95 rfl (lv_at hl 1 rfl) ?_
              refine lv_aload_n hx hb dL_holds_96 rfl (lv_at hl 2 rfl) ?_
              refine lv_aload_n hx hb dL_holds_97 rfl (lv_at hl 3 rfl) ?_
              refine lv_aload hx hb dL_holds_98 (lv_at hl 4 rfl) ?_
              refine lv_aload hx hb dL_holds_100 (lv_at hl 5 rfl) ?_
              refine lv_aload hx hb dL_holds_102 (lv_at hl 6 rfl) ?_
              refine lv_aload_n hx hb dL_holds_104 rfl (lv_at hl 0 rfl) ?_
              refine lv_iconst (v := nI 2) hx hb dL_holds_105 (by decide) ?_
              refine lv_iload hx hb dL_holds_106 (lv_at hl 8 rfl) ?_
              refine k_imul hx hb dL_holds_108 ?_
              refine lv_bipush (v := nI 23) hx hb dL_holds_109 (by decide) ?_
              refine k_ci (va_runS (As := [.ref b, .int (nI (2 * e9)), .int (nI 23)]) (rest := [.ref (ad 13 0), .ref (ad 12 0), .ref (ad 11 0), .ref (ad 10 0), .ref (ad 9 0), .ref (ad 0 0)]) ⟨hx, hb, hml, hown, hts⟩ (c_L_from l hlt g ad t b L xs (2 * e9) 23 hbg (Nat.lt_of_le_of_lt hL (by decide)) (by omega) (by decide) (by decide)) (va_cwS 3 hts gL_holds_L_from rfl rfl rfl (by decide +kernel) ⟨(Nat.le_of_ble_eq_true rfl), (Nat.le_of_ble_eq_true rfl)⟩) ⟨k_blindX, fun U hU hw => ⟨rfl, k_I.of hK hZ hN hS hW hU hw, k_Xof hX hbg hN hS hU hw⟩⟩ rfl rfl hl.1 rfl (lv_room (Nat.le_of_ble_eq_true rfl)) dL_holds_111 ⟨(by show (2000 + 800 * e9 + 0) + 0 ≤ 100000; omega), (by show (20000 + 5000 * e9 + 0) + 0 ≤ 600000; omega)⟩) hS (fun r u H locs hpo hW hS => ?_)
              obtain ⟨⟨v111, hv111, hr9⟩, hu9⟩ := hpo; replace hu9 := hu9.symm; subst hu9; replace hr9 := hr9.symm; subst hr9
              refine lv_aload_n hx hb dL_holds_114 rfl (lv_at hl 0 rfl) ?_
              refine lv_iconst (v := nI 2) hx hb dL_holds_115 (by decide) ?_
              refine lv_iload hx hb dL_holds_116 (lv_at hl 8 rfl) ?_
              refine k_imul hx hb dL_holds_118 ?_
              refine lv_iconst (v := nI 1) hx hb dL_holds_119 (by decide) ?_
              refine k_iadd hx hb dL_holds_120 ?_
              refine lv_ldc (own := RL) (v := nI 10000000) hx hb hown (hts (.constant RL 140 (nI 10000000)) (by decide +kernel)) dL_holds_121 ?_
              refine k_ci (va_runS (As := [.ref b, .int (nI ((2 * e9) + 1)), .int (nI 10000000)]) (rest := [.int (nI v111), .ref (ad 13 0), .ref (ad 12 0), .ref (ad 11 0), .ref (ad 10 0), .ref (ad 9 0), .ref (ad 0 0)]) ⟨hx, hb, hml, hown, hts⟩ (c_L_from l hlt g ad t b L xs ((2 * e9) + 1) 10000000 hbg (Nat.lt_of_le_of_lt hL (by decide)) (by omega) (by decide) (by decide)) (va_cwS 3 hts gL_holds_L_from rfl rfl rfl (by decide +kernel) ⟨(Nat.le_of_ble_eq_true rfl), (Nat.le_of_ble_eq_true rfl)⟩) ⟨k_blindX, fun U hU hw => ⟨rfl, k_I.of hK hZ hN hS hW hU hw, k_Xof hX hbg hN hS hU hw⟩⟩ rfl rfl hl.1 rfl (lv_room (Nat.le_of_ble_eq_true rfl)) dL_holds_123 ⟨(by show (2000 + 800 * e9 + 0) + 0 ≤ 100000; omega), (by show (20000 + 5000 * e9 + 0) + 0 ≤ 600000; omega)⟩) hS (fun r u H locs hpo hW hS => ?_)
              obtain ⟨⟨v123, hv123, hr9⟩, hu9⟩ := hpo; replace hu9 := hu9.symm; subst hu9; replace hr9 := hr9.symm; subst hr9
              refine k_ciA (va_runS (As := [.ref (ad 0 0), .ref (ad 9 0), .ref (ad 10 0), .ref (ad 11 0), .ref (ad 12 0), .ref (ad 13 0), .int (nI v111), .int (nI v123)]) (rest := []) ⟨hx, hb, hml, hown, hts⟩ (c_L_acts l hlt g ad t e9 v111 v123 hJ (by omega) hv111 hv123) (va_cwS 8 hts gL_holds_L_acts rfl rfl rfl (by decide +kernel) ⟨(Nat.le_of_ble_eq_true rfl), (Nat.le_of_ble_eq_true rfl)⟩) ⟨k_blind, fun U hU hw => ⟨rfl, k_I.of hK hZ hN hS hW hU hw⟩⟩ rfl rfl hl.1 rfl (lv_room (Nat.le_of_ble_eq_true rfl)) dL_holds_126 ⟨(by show (2000 + 800 * e9 + 0) + 24 ≤ 100000; omega), (by show (20000 + 5000 * e9 + 0) + 171 ≤ 600000; omega)⟩) hS (fun r u H locs hpo hW hS => ?_)
              obtain ⟨u1, ad⟩ := u
              obtain ⟨hr9, hJ1, hadp⟩ := hpo
              replace hr9 := hr9.symm; subst hr9
              have hW : k_H g ad u1 H := hW
              have a0 : ad 0 0 = _ := hadp 0 0 (by decide) (by decide)
              have a9 : ad 9 0 = _ := hadp 9 0 (by decide) (by decide)
              have a10 : ad 10 0 = _ := hadp 10 0 (by decide) (by decide)
              have a11 : ad 11 0 = _ := hadp 11 0 (by decide) (by decide)
              have a12 : ad 12 0 = _ := hadp 12 0 (by decide) (by decide)
              have a13 : ad 13 0 = _ := hadp 13 0 (by decide) (by decide)
              rw [← a0, ← a9, ← a10, ← a11, ← a12, ← a13] at hl
              have hl : lv_has ls 9 [(0, .ref b), (1, .ref (ad 0 0)), (2, .ref (ad 9 0)), (3, .ref (ad 10 0)), (4, .ref (ad 11 0)), (5, .ref (ad 12 0)), (6, .ref (ad 13 0)), (7, .int (nI 1)), (8, .int (nI e9))] := hl
              refine lv_if_eq (tgt := 157) hx hb dL_holds_129 (by decide) (fun h_129 => absurd h_129 (by decide)) (fun h_129 => ?_)
              refine lv_iload hx hb dL_holds_132 (lv_at hl 8 rfl) ?_
              refine lv_iconst (v := nI 4) hx hb dL_holds_134 (by decide) ?_
              refine lv_irem hx hb dL_holds_135 (by decide) ?_
              refine k_toi (pk_rem (by omega) (by decide) (by decide)) ?_
              refine lv_iconst (v := nI 3) hx hb dL_holds_136 (by decide) ?_
              refine k_icmp_lt (tgt := 153) hx hb (a := e9 % 4) (b := 3) (by omega) (by decide) dL_holds_137 (by decide) (fun h_137 => ?_) (fun h_137 => ?_)
              · refine lv_iconst (v := nI 1) hx hb dL_holds_153 (by decide) ?_
                refine lv_goto (tgt := 158) hx hb dL_holds_154 (by decide) ?_
                refine lv_istore (lv' := [(7, .int (nI 1)), (0, .ref b), (1, .ref (ad 0 0)), (2, .ref (ad 9 0)), (3, .ref (ad 10 0)), (4, .ref (ad 11 0)), (5, .ref (ad 12 0)), (6, .ref (ad 13 0)), (8, .int (nI e9))]) hx hb dL_holds_158 hl (by decide) rfl (fun ls hl => ?_)
                refine lv_iinc (v := nI (e9 + 1)) (lv' := [(8, .int (nI (e9 + 1))), (7, .int (nI 1)), (0, .ref b), (1, .ref (ad 0 0)), (2, .ref (ad 9 0)), (3, .ref (ad 10 0)), (4, .ref (ad 11 0)), (5, .ref (ad 12 0)), (6, .ref (ad 13 0))]) hx hb dL_holds_160 hl (k := 8) rfl (nI_add _ _) (by decide) rfl (fun ls hl => ?_)
                refine lv_goto (tgt := 83) hx hb dL_holds_163 (by decide) ?_
                refine W.widen (k := 2000 + 800 * (e9 + 1)) (n := 20000 + 5000 * (e9 + 1)) (by omega) (by omega) ?_
                exact ih_83 (e9 + 1) u1 ad (by omega) (by omega) hJ1 _ _ hW hS _ (lv_sub hl [2, 3, 4, 5, 6, 7, 8, 1, 0] rfl)
              · refine lv_aload_n hx hb dL_holds_140 rfl (lv_at hl 1 rfl) ?_
                refine lv_aload_n hx hb dL_holds_141 rfl (lv_at hl 2 rfl) ?_
                refine lv_aload_n hx hb dL_holds_142 rfl (lv_at hl 3 rfl) ?_
                refine lv_aload hx hb dL_holds_143 (lv_at hl 5 rfl) ?_
                refine lv_aload hx hb dL_holds_145 (lv_at hl 6 rfl) ?_
                refine k_ci (va_runS (As := [.ref (ad 0 0), .ref (ad 9 0), .ref (ad 10 0), .ref (ad 12 0), .ref (ad 13 0)]) (rest := []) ⟨hx, hb, hml, hown, hts⟩ (c_L_isTold l hlt g ad u1 (e9 + 1) hJ1 (by omega)) (va_cwS 5 hts gL_holds_L_isTold rfl rfl rfl (by decide +kernel) ⟨(Nat.le_of_ble_eq_true rfl), (Nat.le_of_ble_eq_true rfl)⟩) ⟨k_blind, fun U hU hw => ⟨rfl, k_I.of hK hZ hN hS hW hU hw⟩⟩ rfl rfl hl.1 rfl (lv_room (Nat.le_of_ble_eq_true rfl)) dL_holds_147 ⟨(by show (2000 + 800 * e9 + 24) + 640 ≤ 100000; omega), (by show (20000 + 5000 * e9 + 171) + 3840 ≤ 600000; omega)⟩) hS (fun r u H locs hpo hW hS => ?_)
                obtain ⟨hr9, P147, N147, hu9⟩ := hpo; replace hu9 := hu9.symm; subst hu9; replace hr9 := hr9.symm; subst hr9
                have hW : k_H g ad (set_o_nd (set_o_pm u1 P147) N147) H := hW
                refine lv_if_eq (tgt := 157) hx hb dL_holds_150 (by decide) (fun h_150 => absurd h_150 (by decide)) (fun h_150 => ?_)
                have hJt := hJ1.mark (P := P147) (N := N147)
                refine lv_iconst (v := nI 1) hx hb dL_holds_153 (by decide) ?_
                refine lv_goto (tgt := 158) hx hb dL_holds_154 (by decide) ?_
                refine lv_istore (lv' := [(7, .int (nI 1)), (0, .ref b), (1, .ref (ad 0 0)), (2, .ref (ad 9 0)), (3, .ref (ad 10 0)), (4, .ref (ad 11 0)), (5, .ref (ad 12 0)), (6, .ref (ad 13 0)), (8, .int (nI e9))]) hx hb dL_holds_158 hl (by decide) rfl (fun ls hl => ?_)
                refine lv_iinc (v := nI (e9 + 1)) (lv' := [(8, .int (nI (e9 + 1))), (7, .int (nI 1)), (0, .ref b), (1, .ref (ad 0 0)), (2, .ref (ad 9 0)), (3, .ref (ad 10 0)), (4, .ref (ad 11 0)), (5, .ref (ad 12 0)), (6, .ref (ad 13 0))]) hx hb dL_holds_160 hl (k := 8) rfl (nI_add _ _) (by decide) rfl (fun ls hl => ?_)
                refine lv_goto (tgt := 83) hx hb dL_holds_163 (by decide) ?_
                refine W.widen (k := 2000 + 800 * (e9 + 1)) (n := 20000 + 5000 * (e9 + 1)) (by omega) (by omega) ?_
                exact ih_83 (e9 + 1) (set_o_nd (set_o_pm u1 P147) N147) ad (by omega) (by omega) hJt _ _ hW hS _ (lv_sub hl [2, 3, 4, 5, 6, 7, 8, 1, 0] rfl)
        refine W.widen (k := 2000 + 800 * 0) (n := 20000 + 5000 * 0) (by omega) (by omega) ?_
        exact hloop_83 111 0 (set_w_r (set_w_m k_t0 (va_up (va_up (va_up (w_m k_t0) 5 (nI 3)) 6 (nI 2)) 7 (nI 1))) R9) ad (by omega) (by omega) (q_J0 (fun i hi => hR i (by omega))) _ _ hW hS _ (lv_sub hl [2, 3, 4, 5, 6, 7, 8, 1, 0] rfl)
      · refine lv_aload hx hb dL_holds_62 (lv_at hl 6 rfl) ?_
        refine lv_iload hx hb dL_holds_64 (lv_at hl 7 rfl) ?_
        refine lv_iload hx hb dL_holds_66 (lv_at hl 7 rfl) ?_
        refine lv_iconst (v := nI 5) hx hb dL_holds_68 (by decide) ?_
        refine lv_irem hx hb dL_holds_69 (by decide) ?_
        refine k_toi (pk_rem (by omega) (by decide) (by decide)) ?_
        refine k_iast hx hb hK hW hS (kc_13 g ad (set_w_r (set_w_m k_t0 (va_up (va_up (va_up (w_m k_t0) 5 (nI 3)) 6 (nI 2)) 7 (nI 1))) R9)) k rfl (by omega) (by decide) dL_holds_70 (fun H locs hW hS => ?_)
        have hW : k_H g ad (set_w_r (set_w_m k_t0 (va_up (va_up (va_up (w_m k_t0) 5 (nI 3)) 6 (nI 2)) 7 (nI 1))) (va_up R9 k (nI (k % 5)))) H := kt_w_r (t := set_w_r (set_w_m k_t0 (va_up (va_up (va_up (w_m k_t0) 5 (nI 3)) 6 (nI 2)) 7 (nI 1))) R9) k (nI (k % 5)) rfl hW
        refine lv_iinc (v := nI (k + 1)) (lv' := [(7, .int (nI (k + 1))), (0, .ref b), (1, .ref (ad 0 0)), (2, .ref (ad 9 0)), (3, .ref (ad 10 0)), (4, .ref (ad 11 0)), (5, .ref (ad 12 0)), (6, .ref (ad 13 0))]) hx hb dL_holds_71 hl (k := 7) rfl (nI_add _ _) (by decide) rfl (fun ls hl => ?_)
        refine lv_goto (tgt := 55) hx hb dL_holds_74 (by decide) ?_
        exact ih (k + 1) (va_up R9 k (nI (k % 5))) (by omega) (by omega) (fun i hi => if h9 : i = k then (by subst h9; rw [va_up_self]) else (by rw [va_up_ne _ _ h9]; exact hR i (by omega))) _ _ hW hS _ (lv_sub hl [1, 2, 3, 4, 5, 6, 7, 0] rfl)
  have hW : k_H g ad (set_w_r (set_w_m k_t0 (va_up (va_up (va_up (w_m k_t0) 5 (nI 3)) 6 (nI 2)) 7 (nI 1))) (w_r k_t0)) H := hW
  exact hloop_55 65 0 (w_r k_t0) (by omega) (by omega) (fun i hi => absurd hi (Nat.not_lt_zero _)) _ _ hW hS _ (lv_sub hl [7, 6, 5, 4, 3, 2, 1, 0] rfl)
