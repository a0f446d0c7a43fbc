section GEnds
variable {p : Program} {l : Launch} {e : Env} {R : Room} {s : State} {m : MethodId} {args : Array Value} {below : List Frame} {meth : Method} {c : Code} {H : Heap} {locs : List Loc} {cells slots : Nat} {Q : State → Prop}
variable {cc : ByteArray} {pc : Nat} {ls : Array Slot} {rest st0 : List Value} {g : k_g} {G : k_G} {ad : k_AD} {mc ms : Nat} {a : Array Value}
theorem k_up_at {a b : Nat} {e : va_E} : k_up G a b e a b = some e := if_pos ⟨rfl, rfl⟩
theorem k_up_ne {a b x y : Nat} {e : va_E} (h : ¬ (x = a ∧ y = b)) : k_up G a b e x y = G x y := if_neg h
theorem k_up_same {a b : Nat} {e e' : va_E} : k_up (k_up G a b e) a b e' = k_up G a b e' := by
  funext x y
  by_cases h : x = a ∧ y = b
  · rw [h.1, h.2, k_up_at, k_up_at]
  · rw [k_up_ne h, k_up_ne h, k_up_ne h]
theorem k_up_comm {a b x y : Nat} {e z : va_E} (h : ¬ (a = x ∧ b = y)) : k_up (k_up G a b e) x y z = k_up (k_up G x y z) a b e := by
  funext i j
  by_cases h1 : i = a ∧ j = b
  · rw [h1.1, h1.2, k_up_ne h, k_up_at, k_up_at]
  · rw [k_up_ne h1]
    by_cases h2 : i = x ∧ j = y
    · rw [h2.1, h2.2, k_up_at, k_up_at]
    · rw [k_up_ne h2, k_up_ne h2, k_up_ne h1]
theorem k_up_sw {a b x y : Nat} {e z e' : va_E} (h : ¬ (x = a ∧ y = b)) : k_up (k_up (k_up G a b e) x y z) a b e' = k_up (k_up G x y z) a b e' := by
  rw [k_up_comm (fun q => h ⟨q.1.symm, q.2.symm⟩), k_up_same]
theorem k_rvG {post : k_G × k_AD → Prop} (hQ : Q = MQ below (va_Qv (S := k_G × k_AD) post (fun u U => k_Wd g u.1 u.2 U.heap) (k_A g)) args s mc ms (k_A g)) (hx : p.tables.exec = Jvm.exec) (hb : c.code = cc) (hr : meth.sig.returnType = none) (hlk : meth.locks = false) (hS : va_S (k_A g) s.heap H locs) (hW : k_Wd g G ad H) (hp : post (G, ad)) (hc : cells ≤ mc) (hs : slots ≤ ms) (hd : decode cc pc = .ok (.return_, 1)) : W p l e R s m args below meth c H locs cells slots Q (F0 m pc ls []) := by
  subst hQ
  refine W.widen hc hs ?_
  exact W.vret hx hb hr (fun t9 ht _ => ⟨⟨(G, ad), rfl, hp, by show k_Wd g G ad t9.heap; rw [ht]; exact hW⟩, hS.F ht⟩) hS.2.2 hd hlk
theorem k_cvG {post : k_G × k_AD → Prop} (hr : va_Run p l e R s m args below meth c H locs cells slots mc ms (F0 m pc ls st0) rest (va_Qv (S := k_G × k_AD) post (fun u U => k_Wd g u.1 u.2 U.heap) (k_A g) a) (k_A g)) (hS : va_S (k_A g) s.heap H locs)
    (kk : ∀ (u : k_G × k_AD) (H1 : Heap) (locs1 : List Loc), post u → k_Wd g u.1 u.2 H1 → va_S (k_A g) s.heap H1 locs1 → W p l e R s m args below meth c H1 locs1 (cells + mc) (slots + ms) Q (F0 m (pc + 3) ls rest)) : W p l e R s m args below meth c H locs cells slots Q (F0 m pc ls st0) :=
  va_callv hr hS (fun _ _ h => h) (fun _ h => h) (fun u t H1 locs1 ht _ hp hb _ _ hS1 => kk u H1 locs1 hp (ht ▸ hb) hS1)
end GEnds
theorem k_fill {F1 : Nat → Int32} {i : Nat} {v : Nat → Int32} {z : Int32} (h : ∀ j, F1 j = if j < i then v j else z) : ∀ j, va_up F1 i (v i) j = if j < i + 1 then v j else z := by
  intro j
  by_cases hj : j = i
  · subst hj; rw [va_up_self, if_pos (Nat.lt_succ_self _)]
  · rw [va_up_ne _ _ hj, h j]
    by_cases h2 : j < i
    · rw [if_pos h2, if_pos (by omega)]
    · rw [if_neg h2, if_neg (by omega)]
theorem dfX0 : ∀ j, j < 11 → defaultValue (tyX0 j) = vp_V [.int (nI 0), .int (nI 0), .null, .int (nI 0), .null, .int (nI 0), .int (kb false), .int (kb false), .int (kb false), .int (kb false), .int (kb false)] j := by
  intro j hj
  rcases j with _ | _ | _ | _ | _ | _ | _ | _ | _ | _ | _ | j
  all_goals first | rfl | exact absurd hj (by omega)
theorem dfX1 : ∀ j, j < 4 → defaultValue (tyX1 j) = vp_V [.null, .null, .null, .int (nI 0)] j := by
  intro j hj
  rcases j with _ | _ | _ | _ | j
  all_goals first | rfl | exact absurd hj (by omega)
theorem dfX2 : ∀ j, j < 1 → defaultValue (tyX2 j) = vp_V [.null] j := by
  intro j hj
  rcases j with _ | j
  all_goals first | rfl | exact absurd hj (by omega)
theorem dfX3 : ∀ j, j < 5 → defaultValue (tyX3 j) = vp_V [.null, .int (nI 0), .int (nI 0), .int (nI 0), .int (nI 0)] j := by
  intro j hj
  rcases j with _ | _ | _ | _ | _ | j
  all_goals first | rfl | exact absurd hj (by omega)
theorem dfX4 : ∀ j, j < 4 → defaultValue (tyX4 j) = vp_V [.null, .null, .null, .int (nI 0)] j := by
  intro j hj
  rcases j with _ | _ | _ | _ | j
  all_goals first | rfl | exact absurd hj (by omega)
abbrev rm_X1_init : Room := { frames := 1, cells := 3, slots := 610, locals := 12 }
set_option maxRecDepth 100000 in
set_option maxHeartbeats 4000000 in
theorem c_X1_init (l : Launch) (hlt : l.stackTraces = false) (g : k_g) (ad : k_AD) (G : k_G)  (h1 : G 1 0 = some (.inr (1, [.null, .null, .null, .int (nI 0)]))) (h2 : G 2 0 = none) (h3 : G 3 0 = none) (h4 : G 4 0 = none) : Met l yX1_init wsX1_init rm_X1_init (va_Pc [.ref (ad 1 0)] (k_I g G ad)) (va_Qv (S := k_G × k_AD) (fun u => ∃ q2 q3 q4, u = (k_up (k_up (k_up (k_up G 2 0 (.inl (g.2.1 0, 10, .inl (fun _ => nI 0)))) 3 0 (.inl (g.2.1 0, 300, .inl (fun _ => nI 0)))) 4 0 (.inl (g.2.1 0, 300, .inl (fun _ => nI 0)))) 1 0 (.inr (1, [.ref q2, .ref q3, .ref q4, .int (nI 0)])), k_ua (k_ua (k_ua ad 2 0 q2) 3 0 q3) 4 0 q4)) (fun u U => k_Wd g u.1 u.2 U.heap) (k_A g)) 3 610 (k_A g) := by
  refine k_met (cc := cX1_init) (maxL := 1) (ret := none) (by decide) rfl (Nat.le_of_ble_eq_true rfl) (fun p e s m args below meth c Q ls hQ hx hb hr hml hts hown hlk hin hK hZ hN hW hS hl => ?_)
  have hown : s.vm.findClass RX1 = some m.cls := hown
  have hl : lv_has ls 1 [(0, .ref (ad 1 0))] := hl
  have hW : k_Wd g G ad s.heap := hW
  have hinX1 : ∀ w ∈ wsX10, w ∈ wsX1_init := by decide +kernel
  refine lv_aload_n hx hb dX1_init_0 rfl (lv_at hl 0 rfl) ?_
  refine W.objInit hx hb hown (hts (.methodLink RX1 3 objectInit) (by decide +kernel)) (hts (.instanceMethod objectInit) (by decide +kernel)) (hts (.code objectInit ⟨#[0xb1]⟩ 1 none) (by decide +kernel)) rfl (hl.1.trans hml.symm) rfl dX1_init_1 (Nat.le_of_ble_eq_true rfl) (Nat.le_of_ble_eq_true rfl) ?_
  show W p l e rm_X1_init s m args below meth c s.heap [] 0 0 Q (F0 m 4 ls [])
  refine lv_aload_n hx hb dX1_init_4 rfl (lv_at hl 0 rfl) ?_
  refine lv_bipush (v := (nI 10)) hx hb dX1_init_5 (by decide) ?_
  refine k_newa hx hb 0 (ty := .int) rfl rfl (fun C9 h9 => by cases h9) (hts (.arrayClass .int) (by decide +kernel)) hK hN hW hS 2 0 h2 10 (x := .inl (fun _ => nI 0)) (fun _ => rfl) rfl (by decide) (Nat.le_of_ble_eq_true rfl) (Nat.le_of_ble_eq_true rfl) (Nat.le_of_ble_eq_true rfl) dX1_init_7 (fun q2 H hW hS => ?_)
  refine k_putF (C := RX1) (T := TX1) (N := 4) (a := 1) (b := 0) hx hb hts hinX1 tyX1 tyX1_ok nmX1 hown hK hW hS ((k_up_ne (fun q9 => absurd q9.1 (by decide))).trans h1) rfl 0 (by decide) (hts (.fieldLink RX1 9 "DrillVault$Files" "contents" "[I") (by decide +kernel)) rfl rfl hin (ty := tyX1 0) (v := .ref q2) (tyX1_ok 0 (by decide)) rfl rfl (Nat.le_of_ble_eq_true rfl) dX1_init_9 (fun H locs hW hS => ?_)
  have hW : k_Wd g (k_up (k_up G 2 0 (.inl (g.2.1 0, 10, .inl (fun _ => nI 0)))) 1 0 (.inr (1, [.ref q2, .null, .null, .int (nI 0)]))) (k_ua ad 2 0 q2) H := hW
  refine lv_aload_n hx hb dX1_init_12 rfl (lv_at hl 0 rfl) ?_
  refine lv_sipush (v := (nI 300)) hx hb dX1_init_13 (by decide) ?_
  refine k_newa hx hb 0 (ty := .int) rfl rfl (fun C9 h9 => by cases h9) (hts (.arrayClass .int) (by decide +kernel)) hK hN hW hS 3 0 ((k_up_ne (fun q9 => absurd q9.1 (by decide))).trans ((k_up_ne (fun q9 => absurd q9.1 (by decide))).trans h3)) 300 (x := .inl (fun _ => nI 0)) (fun _ => rfl) rfl (by decide) (Nat.le_of_ble_eq_true rfl) (Nat.le_of_ble_eq_true rfl) (Nat.le_of_ble_eq_true rfl) dX1_init_16 (fun q3 H hW hS => ?_)
  refine k_putF (C := RX1) (T := TX1) (N := 4) (a := 1) (b := 0) hx hb hts hinX1 tyX1 tyX1_ok nmX1 hown hK hW hS ((k_up_ne (fun q9 => absurd q9.1 (by decide))).trans k_up_at) rfl 1 (by decide) (hts (.fieldLink RX1 15 "DrillVault$Files" "changedFiles" "[I") (by decide +kernel)) rfl rfl hin (ty := tyX1 1) (v := .ref q3) (tyX1_ok 1 (by decide)) rfl rfl (Nat.le_of_ble_eq_true rfl) dX1_init_18 (fun H locs hW hS => ?_)
  have hW : k_Wd g (k_up (k_up (k_up G 2 0 (.inl (g.2.1 0, 10, .inl (fun _ => nI 0)))) 3 0 (.inl (g.2.1 0, 300, .inl (fun _ => nI 0)))) 1 0 (.inr (1, [.ref q2, .ref q3, .null, .int (nI 0)]))) (k_ua (k_ua ad 2 0 q2) 3 0 q3) H := by rw [k_up_sw (fun q9 => absurd q9.1 (by decide))] at hW; exact hW
  refine lv_aload_n hx hb dX1_init_21 rfl (lv_at hl 0 rfl) ?_
  refine lv_sipush (v := (nI 300)) hx hb dX1_init_22 (by decide) ?_
  refine k_newa hx hb 0 (ty := .int) rfl rfl (fun C9 h9 => by cases h9) (hts (.arrayClass .int) (by decide +kernel)) hK hN hW hS 4 0 ((k_up_ne (fun q9 => absurd q9.1 (by decide))).trans ((k_up_ne (fun q9 => absurd q9.1 (by decide))).trans ((k_up_ne (fun q9 => absurd q9.1 (by decide))).trans h4))) 300 (x := .inl (fun _ => nI 0)) (fun _ => rfl) rfl (by decide) (Nat.le_of_ble_eq_true rfl) (Nat.le_of_ble_eq_true rfl) (Nat.le_of_ble_eq_true rfl) dX1_init_25 (fun q4 H hW hS => ?_)
  refine k_putF (C := RX1) (T := TX1) (N := 4) (a := 1) (b := 0) hx hb hts hinX1 tyX1 tyX1_ok nmX1 hown hK hW hS ((k_up_ne (fun q9 => absurd q9.1 (by decide))).trans k_up_at) rfl 2 (by decide) (hts (.fieldLink RX1 18 "DrillVault$Files" "changedTo" "[I") (by decide +kernel)) rfl rfl hin (ty := tyX1 2) (v := .ref q4) (tyX1_ok 2 (by decide)) rfl rfl (Nat.le_of_ble_eq_true rfl) dX1_init_27 (fun H locs hW hS => ?_)
  have hW : k_Wd g (k_up (k_up (k_up (k_up G 2 0 (.inl (g.2.1 0, 10, .inl (fun _ => nI 0)))) 3 0 (.inl (g.2.1 0, 300, .inl (fun _ => nI 0)))) 4 0 (.inl (g.2.1 0, 300, .inl (fun _ => nI 0)))) 1 0 (.inr (1, [.ref q2, .ref q3, .ref q4, .int (nI 0)]))) (k_ua (k_ua (k_ua ad 2 0 q2) 3 0 q3) 4 0 q4) H := by rw [k_up_sw (fun q9 => absurd q9.1 (by decide))] at hW; exact hW
  exact k_rvG hQ hx hb hr hlk hS hW ⟨q2, q3, q4, rfl⟩ (Nat.le_of_ble_eq_true rfl) (Nat.le_of_ble_eq_true rfl) dX1_init_30
abbrev rm_X2_init : Room := { frames := 1, cells := 1, slots := 365, locals := 12 }
set_option maxRecDepth 100000 in
set_option maxHeartbeats 4000000 in
theorem c_X2_init (l : Launch) (hlt : l.stackTraces = false) (g : k_g) (ad : k_AD) (G : k_G)  (h7 : G 7 0 = some (.inr (2, [.null]))) (h8 : G 8 0 = none) : Met l yX2_init wsX2_init rm_X2_init (va_Pc [.ref (ad 7 0)] (k_I g G ad)) (va_Qv (S := k_G × k_AD) (fun u => ∃ q8, u = (k_up (k_up G 7 0 (.inr (2, [.ref q8]))) 8 0 (.inl (g.2.1 0, 365, .inl (fun j => nI (if j < 365 then j % 5 else 0)))), k_ua ad 8 0 q8)) (fun u U => k_Wd g u.1 u.2 U.heap) (k_A g)) 1 365 (k_A g) := by
  refine k_met (cc := cX2_init) (maxL := 2) (ret := none) (by decide) rfl (Nat.le_of_ble_eq_true rfl) (fun p e s m args below meth c Q ls hQ hx hb hr hml hts hown hlk hin hK hZ hN hW hS hl => ?_)
  have hown : s.vm.findClass RX2 = some m.cls := hown
  have hl : lv_has ls 2 [(0, .ref (ad 7 0))] := hl
  have hW : k_Wd g G ad s.heap := hW
  have hinX2 : ∀ w ∈ wsX20, w ∈ wsX2_init := by decide +kernel
  refine lv_aload_n hx hb dX2_init_0 rfl (lv_at hl 0 rfl) ?_
  refine W.objInit hx hb hown (hts (.methodLink RX2 3 objectInit) (by decide +kernel)) (hts (.instanceMethod objectInit) (by decide +kernel)) (hts (.code objectInit ⟨#[0xb1]⟩ 1 none) (by decide +kernel)) rfl (hl.1.trans hml.symm) rfl dX2_init_1 (Nat.le_of_ble_eq_true rfl) (Nat.le_of_ble_eq_true rfl) ?_
  show W p l e rm_X2_init s m args below meth c s.heap [] 0 0 Q (F0 m 4 ls [])
  refine lv_aload_n hx hb dX2_init_4 rfl (lv_at hl 0 rfl) ?_
  refine lv_sipush (v := (nI 365)) hx hb dX2_init_5 (by decide) ?_
  refine k_newa hx hb 0 (ty := .int) rfl rfl (fun C9 h9 => by cases h9) (hts (.arrayClass .int) (by decide +kernel)) hK hN hW hS 8 0 h8 365 (x := .inl (fun _ => nI 0)) (fun _ => rfl) rfl (by decide) (Nat.le_of_ble_eq_true rfl) (Nat.le_of_ble_eq_true rfl) (Nat.le_of_ble_eq_true rfl) dX2_init_8 (fun q8 H hW hS => ?_)
  refine k_putF (C := RX2) (T := TX2) (N := 1) (a := 7) (b := 0) hx hb hts hinX2 tyX2 tyX2_ok nmX2 hown hK hW hS ((k_up_ne (fun q9 => absurd q9.1 (by decide))).trans h7) rfl 0 (by decide) (hts (.fieldLink RX2 9 "DrillVault$Rota" "persons" "[I") (by decide +kernel)) rfl rfl hin (ty := tyX2 0) (v := .ref q8) (tyX2_ok 0 (by decide)) rfl rfl (Nat.le_of_ble_eq_true rfl) dX2_init_10 (fun H locs hW hS => ?_)
  have hW : k_Wd g (k_up (k_up G 8 0 (.inl (g.2.1 0, 365, .inl (fun _ => nI 0)))) 7 0 (.inr (2, [.ref q8]))) (k_ua ad 8 0 q8) H := hW
  refine lv_iconst (v := (nI 0)) hx hb dX2_init_13 (by decide) ?_
  refine lv_istore_n (lv' := [(1, .int (nI 0)), (0, .ref (ad 7 0))]) hx hb dX2_init_14 rfl hl (by decide) rfl (fun ls hl => ?_)
  have hW : k_Wd g (k_up (k_up G 7 0 (.inr (2, [.ref q8]))) 8 0 (.inl (g.2.1 0, 365, .inl (fun _ => nI 0)))) (k_ua ad 8 0 q8) H := by rw [k_up_comm (fun q9 => absurd q9.1 (by decide))] at hW; exact hW
  have hloop : ∀ (n i : Nat) (F1 : Nat → Int32), 365 < i + n → i ≤ 365 → (∀ j, F1 j = if j < i then nI (j % 5) else nI 0) → ∀ (H : Heap) (locs : List Loc), k_Wd g (k_up (k_up G 7 0 (.inr (2, [.ref q8]))) 8 0 (.inl (g.2.1 0, 365, .inl F1))) (k_ua ad 8 0 q8) H → va_S (k_A g) s.heap H locs → ∀ (ls : Array Slot), lv_has ls 2 [(0, .ref (ad 7 0)), (1, .int (nI i))] → W p l e rm_X2_init s m args below meth c H locs 1 365 Q (F0 m 15 ls []) := by
    intro n
    induction n with
    | zero => intro i F1 hfu hi hF; exact absurd hfu (by omega)
    | succ n ih =>
      intro i F1 hfu hi hF H locs hW hS ls hl
      refine lv_iload_n hx hb dX2_init_15 rfl (lv_at hl 1 rfl) ?_
      refine lv_aload_n hx hb dX2_init_16 rfl (lv_at hl 0 rfl) ?_
      refine k_get (own := RX2) (C := RX2) (T := TX2) (N := 1) (a := 7) (b := 0) hx hb hts hinX2 hown hK hW ((k_up_ne (fun q9 => absurd q9.1 (by decide))).trans k_up_at) rfl 0 (by decide) (hts (.fieldLink RX2 9 "DrillVault$Rota" "persons" "[I") (by decide +kernel)) rfl (v := .ref q8) rfl dX2_init_17 ?_
      refine k_alen hx hb hK hW (a := 8) (b := 0) 0 rfl k_up_at (v := nI 365) rfl dX2_init_20 ?_
      refine k_icmp_ge (tgt := 39) hx hb (a := i) (b := 365) (by omega) (by decide) dX2_init_21 (by decide) (fun h_21 => ?_) (fun h_21 => ?_)
      · have hi9 : i = 365 := by omega
        have hF9 : F1 = (fun j => nI (if j < 365 then j % 5 else 0)) := funext fun j => by rw [hF j, hi9]; by_cases h9 : j < 365 <;> simp [h9]
        subst hF9
        exact k_rvG hQ hx hb hr hlk hS hW ⟨q8, rfl⟩ (Nat.le_of_ble_eq_true rfl) (Nat.le_of_ble_eq_true rfl) dX2_init_39
      · refine lv_aload_n hx hb dX2_init_24 rfl (lv_at hl 0 rfl) ?_
        refine k_get (own := RX2) (C := RX2) (T := TX2) (N := 1) (a := 7) (b := 0) hx hb hts hinX2 hown hK hW ((k_up_ne (fun q9 => absurd q9.1 (by decide))).trans k_up_at) rfl 0 (by decide) (hts (.fieldLink RX2 9 "DrillVault$Rota" "persons" "[I") (by decide +kernel)) rfl (v := .ref q8) rfl dX2_init_25 ?_
        refine lv_iload_n hx hb dX2_init_28 rfl (lv_at hl 1 rfl) ?_
        refine lv_iload_n hx hb dX2_init_29 rfl (lv_at hl 1 rfl) ?_
        refine lv_iconst (v := (nI 5)) hx hb dX2_init_30 (by decide) ?_
        refine lv_irem hx hb dX2_init_31 (by decide) ?_
        refine k_toi (y := nI (i % 5)) (pk_rem (by omega) (by decide) (by decide)) ?_
        refine k_iast hx hb hK hW hS (a := 8) (b := 0) (f := F1) k_up_at i rfl (by omega) (by decide) dX2_init_32 (fun H locs hW hS => ?_)
        have hW : k_Wd g (k_up (k_up G 7 0 (.inr (2, [.ref q8]))) 8 0 (.inl (g.2.1 0, 365, .inl (va_up F1 i (nI (i % 5)))))) (k_ua ad 8 0 q8) H := by rw [k_up_same] at hW; exact hW
        refine lv_iinc (v := nI (i + 1)) (lv' := [(1, .int (nI (i + 1))), (0, .ref (ad 7 0))]) hx hb dX2_init_33 hl (k := 1) rfl (nI_add _ _) (by decide) rfl (fun ls hl => ?_)
        refine lv_goto (tgt := 15) hx hb dX2_init_36 (by decide) ?_
        exact ih (i + 1) (va_up F1 i (nI (i % 5))) (by omega) (by omega) (k_fill hF) _ _ hW hS _ (lv_sub hl [1, 0] rfl)
  exact hloop 366 0 (fun _ => nI 0) (by omega) (by omega) (fun j => by rw [if_neg (Nat.not_lt_zero j)]) _ _ hW hS _ (lv_sub hl [1, 0] rfl)
abbrev rm_X3_init : Room := { frames := 1, cells := 1, slots := 60, locals := 12 }
set_option maxRecDepth 100000 in
set_option maxHeartbeats 4000000 in
theorem c_X3_init (l : Launch) (hlt : l.stackTraces = false) (g : k_g) (ad : k_AD) (G : k_G)  (h5 : G 5 0 = some (.inr (3, [.null, .int (nI 0), .int (nI 0), .int (nI 0), .int (nI 0)]))) (h6 : G 6 0 = none) : Met l yX3_init wsX3_init rm_X3_init (va_Pc [.ref (ad 5 0)] (k_I g G ad)) (va_Qv (S := k_G × k_AD) (fun u => ∃ q6, u = (k_up (k_up G 6 0 (.inl (g.2.1 3, 60, .inr (.inr (.inr (.inr (fun _ => none))))))) 5 0 (.inr (3, [.ref q6, .int (nI 0), .int (nI 3), .int (nI 2), .int (nI 1)])), k_ua ad 6 0 q6)) (fun u U => k_Wd g u.1 u.2 U.heap) (k_A g)) 1 60 (k_A g) := by
  refine k_met (cc := cX3_init) (maxL := 1) (ret := none) (by decide) rfl (Nat.le_of_ble_eq_true rfl) (fun p e s m args below meth c Q ls hQ hx hb hr hml hts hown hlk hin hK hZ hN hW hS hl => ?_)
  have hown : s.vm.findClass RX3 = some m.cls := hown
  have hl : lv_has ls 1 [(0, .ref (ad 5 0))] := hl
  have hW : k_Wd g G ad s.heap := hW
  have hinX3 : ∀ w ∈ wsX30, w ∈ wsX3_init := by decide +kernel
  refine lv_aload_n hx hb dX3_init_0 rfl (lv_at hl 0 rfl) ?_
  refine W.objInit hx hb hown (hts (.methodLink RX3 3 objectInit) (by decide +kernel)) (hts (.instanceMethod objectInit) (by decide +kernel)) (hts (.code objectInit ⟨#[0xb1]⟩ 1 none) (by decide +kernel)) rfl (hl.1.trans hml.symm) rfl dX3_init_1 (Nat.le_of_ble_eq_true rfl) (Nat.le_of_ble_eq_true rfl) ?_
  show W p l e rm_X3_init s m args below meth c s.heap [] 0 0 Q (F0 m 4 ls [])
  refine lv_aload_n hx hb dX3_init_4 rfl (lv_at hl 0 rfl) ?_
  refine lv_bipush (v := (nI 60)) hx hb dX3_init_5 (by decide) ?_
  refine k_newq hx hb hown (hts (.classLink RX3 9 RX0) (by decide +kernel)) hK hN hW hS 6 0 h6 60 rfl (by decide) (Nat.le_of_ble_eq_true rfl) (Nat.le_of_ble_eq_true rfl) dX3_init_7 (fun q6 H hW hS => ?_)
  refine k_putF (C := RX3) (T := TX3) (N := 5) (a := 5) (b := 0) hx hb hts hinX3 tyX3 tyX3_ok nmX3 hown hK hW hS ((k_up_ne (fun q9 => absurd q9.1 (by decide))).trans h5) rfl 0 (by decide) (hts (.fieldLink RX3 11 "DrillVault$Shelf" "rows" "[LDrillVault$Copy;") (by decide +kernel)) rfl rfl hin (ty := tyX3 0) (v := .ref q6) (tyX3_ok 0 (by decide)) rfl rfl (Nat.le_of_ble_eq_true rfl) dX3_init_10 (fun H locs hW hS => ?_)
  have hW : k_Wd g (k_up (k_up G 6 0 (.inl (g.2.1 3, 60, .inr (.inr (.inr (.inr (fun _ => none))))))) 5 0 (.inr (3, [.ref q6, .int (nI 0), .int (nI 0), .int (nI 0), .int (nI 0)]))) (k_ua ad 6 0 q6) H := hW
  refine lv_aload_n hx hb dX3_init_13 rfl (lv_at hl 0 rfl) ?_
  refine lv_iconst (v := (nI 3)) hx hb dX3_init_14 (by decide) ?_
  refine k_put (own := RX3) (C := RX3) (T := TX3) (N := 5) (a := 5) (b := 0) hx hb hts hinX3 tyX3 tyX3_ok nmX3 hown hK hW hS k_up_at rfl 2 (by decide) (hts (.fieldLink RX3 17 "DrillVault$Shelf" "daysRule" "I") (by decide +kernel)) rfl rfl (ty := tyX3 2) (v := .int (nI 3)) (tyX3_ok 2 (by decide)) rfl rfl (Nat.le_of_ble_eq_true rfl) dX3_init_15 (fun H locs hW hS => ?_)
  have hW : k_Wd g (k_up (k_up G 6 0 (.inl (g.2.1 3, 60, .inr (.inr (.inr (.inr (fun _ => none))))))) 5 0 (.inr (3, [.ref q6, .int (nI 0), .int (nI 3), .int (nI 0), .int (nI 0)]))) (k_ua ad 6 0 q6) H := by rw [k_up_same] at hW; exact hW
  refine lv_aload_n hx hb dX3_init_18 rfl (lv_at hl 0 rfl) ?_
  refine lv_iconst (v := (nI 2)) hx hb dX3_init_19 (by decide) ?_
  refine k_put (own := RX3) (C := RX3) (T := TX3) (N := 5) (a := 5) (b := 0) hx hb hts hinX3 tyX3 tyX3_ok nmX3 hown hK hW hS k_up_at rfl 3 (by decide) (hts (.fieldLink RX3 21 "DrillVault$Shelf" "weeksRule" "I") (by decide +kernel)) rfl rfl (ty := tyX3 3) (v := .int (nI 2)) (tyX3_ok 3 (by decide)) rfl rfl (Nat.le_of_ble_eq_true rfl) dX3_init_20 (fun H locs hW hS => ?_)
  have hW : k_Wd g (k_up (k_up G 6 0 (.inl (g.2.1 3, 60, .inr (.inr (.inr (.inr (fun _ => none))))))) 5 0 (.inr (3, [.ref q6, .int (nI 0), .int (nI 3), .int (nI 2), .int (nI 0)]))) (k_ua ad 6 0 q6) H := by rw [k_up_same] at hW; exact hW
  refine lv_aload_n hx hb dX3_init_23 rfl (lv_at hl 0 rfl) ?_
  refine lv_iconst (v := (nI 1)) hx hb dX3_init_24 (by decide) ?_
  refine k_put (own := RX3) (C := RX3) (T := TX3) (N := 5) (a := 5) (b := 0) hx hb hts hinX3 tyX3 tyX3_ok nmX3 hown hK hW hS k_up_at rfl 4 (by decide) (hts (.fieldLink RX3 24 "DrillVault$Shelf" "monthsRule" "I") (by decide +kernel)) rfl rfl (ty := tyX3 4) (v := .int (nI 1)) (tyX3_ok 4 (by decide)) rfl rfl (Nat.le_of_ble_eq_true rfl) dX3_init_25 (fun H locs hW hS => ?_)
  have hW : k_Wd g (k_up (k_up G 6 0 (.inl (g.2.1 3, 60, .inr (.inr (.inr (.inr (fun _ => none))))))) 5 0 (.inr (3, [.ref q6, .int (nI 0), .int (nI 3), .int (nI 2), .int (nI 1)]))) (k_ua ad 6 0 q6) H := by rw [k_up_same] at hW; exact hW
  exact k_rvG hQ hx hb hr hlk hS hW ⟨q6, rfl⟩ (Nat.le_of_ble_eq_true rfl) (Nat.le_of_ble_eq_true rfl) dX3_init_28
abbrev rm_X0_init : Room := { frames := 1, cells := 1, slots := 10, locals := 12 }
set_option maxRecDepth 100000 in
set_option maxHeartbeats 4000000 in
theorem c_X0_init_n (l : Launch) (hlt : l.stackTraces = false) (g : k_g) (ad : k_AD) (G : k_G) (k : Nat) (j : Nat) (d : Nat) (w : Nat) (h25 : G 25 k = some (.inr (0, [.int (nI 0), .int (nI 0), .null, .int (nI 0), .null, .int (nI 0), .int (kb false), .int (kb false), .int (kb false), .int (kb false), .int (kb false)]))) (h26 : G 26 k = none) : Met l yX0_init wsX0_init rm_X0_init (va_Pc [.ref (ad 25 k), .int (nI j), .int (nI d), .null, .int (nI w)] (k_I g G ad)) (va_Qv (S := k_G × k_AD) (fun u => ∃ q26, u = (k_up (k_up G 25 k (.inr (0, [.int (nI j), .int (nI d), .null, .int (nI w), .ref q26, .int (nI 0), .int (kb false), .int (kb false), .int (kb false), .int (kb false), .int (kb false)]))) 26 k (.inl (g.2.1 0, 10, .inl (fun j => if j < 10 then -1 else nI 0))), k_ua ad 26 k q26)) (fun u U => k_Wd g u.1 u.2 U.heap) (k_A g)) 1 10 (k_A g) := by
  refine k_met (cc := cX0_init) (maxL := 6) (ret := none) (by decide) rfl (Nat.le_of_ble_eq_true rfl) (fun p e s m args below meth c Q ls hQ hx hb hr hml hts hown hlk hin hK hZ hN hW hS hl => ?_)
  have hown : s.vm.findClass RX0 = some m.cls := hown
  have hl : lv_has ls 6 [(0, .ref (ad 25 k)), (1, .int (nI j)), (2, .int (nI d)), (3, .null), (4, .int (nI w))] := hl
  have hW : k_Wd g G ad s.heap := hW
  have hinX0 : ∀ w ∈ wsX00, w ∈ wsX0_init := by decide +kernel
  refine lv_aload_n hx hb dX0_init_0 rfl (lv_at hl 0 rfl) ?_
  refine W.objInit hx hb hown (hts (.methodLink RX0 3 objectInit) (by decide +kernel)) (hts (.instanceMethod objectInit) (by decide +kernel)) (hts (.code objectInit ⟨#[0xb1]⟩ 1 none) (by decide +kernel)) rfl (hl.1.trans hml.symm) rfl dX0_init_1 (Nat.le_of_ble_eq_true rfl) (Nat.le_of_ble_eq_true rfl) ?_
  show W p l e rm_X0_init s m args below meth c s.heap [] 0 0 Q (F0 m 4 ls [])
  refine lv_aload_n hx hb dX0_init_4 rfl (lv_at hl 0 rfl) ?_
  refine lv_bipush (v := (nI 10)) hx hb dX0_init_5 (by decide) ?_
  refine k_newa hx hb 0 (ty := .int) rfl rfl (fun C9 h9 => by cases h9) (hts (.arrayClass .int) (by decide +kernel)) hK hN hW hS 26 k h26 10 (x := .inl (fun _ => nI 0)) (fun _ => rfl) rfl (by decide) (Nat.le_of_ble_eq_true rfl) (Nat.le_of_ble_eq_true rfl) (Nat.le_of_ble_eq_true rfl) dX0_init_7 (fun q26 H hW hS => ?_)
  refine k_putF (C := RX0) (T := TX0) (N := 11) (a := 25) (b := k) hx hb hts hinX0 tyX0 tyX0_ok nmX0 hown hK hW hS ((k_up_ne (fun q9 => absurd q9.1 (by decide))).trans h25) rfl 4 (by decide) (hts (.fieldLink RX0 9 "DrillVault$Copy" "kept" "[I") (by decide +kernel)) rfl rfl hin (ty := tyX0 4) (v := .ref q26) (tyX0_ok 4 (by decide)) rfl rfl (Nat.le_of_ble_eq_true rfl) dX0_init_9 (fun H locs hW hS => ?_)
  have hW : k_Wd g (k_up (k_up G 26 k (.inl (g.2.1 0, 10, .inl (fun _ => nI 0)))) 25 k (.inr (0, [.int (nI 0), .int (nI 0), .null, .int (nI 0), .ref q26, .int (nI 0), .int (kb false), .int (kb false), .int (kb false), .int (kb false), .int (kb false)]))) (k_ua ad 26 k q26) H := hW
  refine lv_aload_n hx hb dX0_init_12 rfl (lv_at hl 0 rfl) ?_
  refine lv_iload_n hx hb dX0_init_13 rfl (lv_at hl 1 rfl) ?_
  refine k_putF (C := RX0) (T := TX0) (N := 11) (a := 25) (b := k) hx hb hts hinX0 tyX0 tyX0_ok nmX0 hown hK hW hS k_up_at rfl 0 (by decide) (hts (.fieldLink RX0 15 "DrillVault$Copy" "number" "I") (by decide +kernel)) rfl rfl hin (ty := tyX0 0) (v := .int (nI j)) (tyX0_ok 0 (by decide)) rfl rfl (Nat.le_of_ble_eq_true rfl) dX0_init_14 (fun H locs hW hS => ?_)
  have hW : k_Wd g (k_up (k_up G 26 k (.inl (g.2.1 0, 10, .inl (fun _ => nI 0)))) 25 k (.inr (0, [.int (nI j), .int (nI 0), .null, .int (nI 0), .ref q26, .int (nI 0), .int (kb false), .int (kb false), .int (kb false), .int (kb false), .int (kb false)]))) (k_ua ad 26 k q26) H := by rw [k_up_same] at hW; exact hW
  refine lv_aload_n hx hb dX0_init_17 rfl (lv_at hl 0 rfl) ?_
  refine lv_iload_n hx hb dX0_init_18 rfl (lv_at hl 2 rfl) ?_
  refine k_putF (C := RX0) (T := TX0) (N := 11) (a := 25) (b := k) hx hb hts hinX0 tyX0 tyX0_ok nmX0 hown hK hW hS k_up_at rfl 1 (by decide) (hts (.fieldLink RX0 19 "DrillVault$Copy" "madeOn" "I") (by decide +kernel)) rfl rfl hin (ty := tyX0 1) (v := .int (nI d)) (tyX0_ok 1 (by decide)) rfl rfl (Nat.le_of_ble_eq_true rfl) dX0_init_19 (fun H locs hW hS => ?_)
  have hW : k_Wd g (k_up (k_up G 26 k (.inl (g.2.1 0, 10, .inl (fun _ => nI 0)))) 25 k (.inr (0, [.int (nI j), .int (nI d), .null, .int (nI 0), .ref q26, .int (nI 0), .int (kb false), .int (kb false), .int (kb false), .int (kb false), .int (kb false)]))) (k_ua ad 26 k q26) H := by rw [k_up_same] at hW; exact hW
  refine lv_aload_n hx hb dX0_init_22 rfl (lv_at hl 0 rfl) ?_
  refine lv_aload_nN hx hb dX0_init_23 rfl (lv_at hl 3 rfl) ?_
  refine k_putF (C := RX0) (T := TX0) (N := 11) (a := 25) (b := k) hx hb hts hinX0 tyX0 tyX0_ok nmX0 hown hK hW hS k_up_at rfl 2 (by decide) (hts (.fieldLink RX0 22 "DrillVault$Copy" "base" "LDrillVault$Copy;") (by decide +kernel)) rfl rfl hin (ty := tyX0 2) (v := .null) (tyX0_ok 2 (by decide)) rfl rfl (Nat.le_of_ble_eq_true rfl) dX0_init_24 (fun H locs hW hS => ?_)
  have hW : k_Wd g (k_up (k_up G 26 k (.inl (g.2.1 0, 10, .inl (fun _ => nI 0)))) 25 k (.inr (0, [.int (nI j), .int (nI d), .null, .int (nI 0), .ref q26, .int (nI 0), .int (kb false), .int (kb false), .int (kb false), .int (kb false), .int (kb false)]))) (k_ua ad 26 k q26) H := by rw [k_up_same] at hW; exact hW
  refine lv_aload_n hx hb dX0_init_27 rfl (lv_at hl 0 rfl) ?_
  refine lv_iload hx hb dX0_init_28 (lv_at hl 4 rfl) ?_
  refine k_putF (C := RX0) (T := TX0) (N := 11) (a := 25) (b := k) hx hb hts hinX0 tyX0 tyX0_ok nmX0 hown hK hW hS k_up_at rfl 3 (by decide) (hts (.fieldLink RX0 26 "DrillVault$Copy" "changesAhead" "I") (by decide +kernel)) rfl rfl hin (ty := tyX0 3) (v := .int (nI w)) (tyX0_ok 3 (by decide)) rfl rfl (Nat.le_of_ble_eq_true rfl) dX0_init_30 (fun H locs hW hS => ?_)
  have hW : k_Wd g (k_up (k_up G 26 k (.inl (g.2.1 0, 10, .inl (fun _ => nI 0)))) 25 k (.inr (0, [.int (nI j), .int (nI d), .null, .int (nI w), .ref q26, .int (nI 0), .int (kb false), .int (kb false), .int (kb false), .int (kb false), .int (kb false)]))) (k_ua ad 26 k q26) H := by rw [k_up_same] at hW; exact hW
  refine lv_iconst (v := (nI 0)) hx hb dX0_init_33 (by decide) ?_
  refine lv_istore (lv' := [(5, .int (nI 0)), (0, .ref (ad 25 k)), (1, .int (nI j)), (2, .int (nI d)), (3, .null), (4, .int (nI w))]) hx hb dX0_init_34 hl (by decide) rfl (fun ls hl => ?_)
  have hW : k_Wd g (k_up (k_up G 25 k (.inr (0, [.int (nI j), .int (nI d), .null, .int (nI w), .ref q26, .int (nI 0), .int (kb false), .int (kb false), .int (kb false), .int (kb false), .int (kb false)]))) 26 k (.inl (g.2.1 0, 10, .inl (fun _ => nI 0)))) (k_ua ad 26 k q26) H := by rw [k_up_comm (fun q9 => absurd q9.1 (by decide))] at hW; exact hW
  have hloop : ∀ (n i : Nat) (F1 : Nat → Int32), 10 < i + n → i ≤ 10 → (∀ j, F1 j = if j < i then -1 else nI 0) → ∀ (H : Heap) (locs : List Loc), k_Wd g (k_up (k_up G 25 k (.inr (0, [.int (nI j), .int (nI d), .null, .int (nI w), .ref q26, .int (nI 0), .int (kb false), .int (kb false), .int (kb false), .int (kb false), .int (kb false)]))) 26 k (.inl (g.2.1 0, 10, .inl F1))) (k_ua ad 26 k q26) H → va_S (k_A g) s.heap H locs → ∀ (ls : Array Slot), lv_has ls 6 [(0, .ref (ad 25 k)), (5, .int (nI i))] → W p l e rm_X0_init s m args below meth c H locs 1 10 Q (F0 m 36 ls []) := by
    intro n
    induction n with
    | zero => intro i F1 hfu hi hF; exact absurd hfu (by omega)
    | succ n ih =>
      intro i F1 hfu hi hF H locs hW hS ls hl
      refine lv_iload hx hb dX0_init_36 (lv_at hl 1 rfl) ?_
      refine lv_aload_n hx hb dX0_init_38 rfl (lv_at hl 0 rfl) ?_
      refine k_get (own := RX0) (C := RX0) (T := TX0) (N := 11) (a := 25) (b := k) hx hb hts hinX0 hown hK hW ((k_up_ne (fun q9 => absurd q9.1 (by decide))).trans k_up_at) rfl 4 (by decide) (hts (.fieldLink RX0 9 "DrillVault$Copy" "kept" "[I") (by decide +kernel)) rfl (v := .ref q26) rfl dX0_init_39 ?_
      refine k_tov (y := .ref ((k_ua ad 26 k q26) 26 k)) (congrArg Value.ref (if_pos ⟨rfl, rfl⟩).symm) ?_
      refine k_alen hx hb hK hW (a := 26) (b := k) 0 rfl k_up_at (v := nI 10) rfl dX0_init_42 ?_
      refine k_icmp_ge (tgt := 60) hx hb (a := i) (b := 10) (by omega) (by decide) dX0_init_43 (by decide) (fun h_43 => ?_) (fun h_43 => ?_)
      · have hi9 : i = 10 := by omega
        have hF9 : F1 = (fun j => if j < 10 then -1 else nI 0) := funext fun j => by rw [hF j, hi9]
        subst hF9
        exact k_rvG hQ hx hb hr hlk hS hW ⟨q26, rfl⟩ (Nat.le_of_ble_eq_true rfl) (Nat.le_of_ble_eq_true rfl) dX0_init_60
      · refine lv_aload_n hx hb dX0_init_46 rfl (lv_at hl 0 rfl) ?_
        refine k_get (own := RX0) (C := RX0) (T := TX0) (N := 11) (a := 25) (b := k) hx hb hts hinX0 hown hK hW ((k_up_ne (fun q9 => absurd q9.1 (by decide))).trans k_up_at) rfl 4 (by decide) (hts (.fieldLink RX0 9 "DrillVault$Copy" "kept" "[I") (by decide +kernel)) rfl (v := .ref q26) rfl dX0_init_47 ?_
        refine k_tov (y := .ref ((k_ua ad 26 k q26) 26 k)) (congrArg Value.ref (if_pos ⟨rfl, rfl⟩).symm) ?_
        refine lv_iload hx hb dX0_init_50 (lv_at hl 1 rfl) ?_
        refine lv_iconst (v := (-1)) hx hb dX0_init_52 (by decide) ?_
        refine k_iast hx hb hK hW hS (a := 26) (b := k) (f := F1) k_up_at i rfl (by omega) (by decide) dX0_init_53 (fun H locs hW hS => ?_)
        have hW : k_Wd g (k_up (k_up G 25 k (.inr (0, [.int (nI j), .int (nI d), .null, .int (nI w), .ref q26, .int (nI 0), .int (kb false), .int (kb false), .int (kb false), .int (kb false), .int (kb false)]))) 26 k (.inl (g.2.1 0, 10, .inl (va_up F1 i (-1))))) (k_ua ad 26 k q26) H := by rw [k_up_same] at hW; exact hW
        refine lv_iinc (v := nI (i + 1)) (lv' := [(5, .int (nI (i + 1))), (0, .ref (ad 25 k))]) hx hb dX0_init_54 hl (k := 1) rfl (nI_add _ _) (by decide) rfl (fun ls hl => ?_)
        refine lv_goto (tgt := 36) hx hb dX0_init_57 (by decide) ?_
        exact ih (i + 1) (va_up F1 i (-1)) (by omega) (by omega) (k_fill hF) _ _ hW hS _ (lv_sub hl [1, 0] rfl)
  exact hloop 11 0 (fun _ => nI 0) (by omega) (by omega) (fun j => by rw [if_neg (Nat.not_lt_zero j)]) _ _ hW hS _ (lv_sub hl [1, 0] rfl)
set_option maxRecDepth 100000 in
set_option maxHeartbeats 4000000 in
theorem c_X0_init_s (l : Launch) (hlt : l.stackTraces = false) (g : k_g) (ad : k_AD) (G : k_G) (k : Nat) (j : Nat) (d : Nat) (w : Nat) (r0 : Nat) (h25 : G 25 k = some (.inr (0, [.int (nI 0), .int (nI 0), .null, .int (nI 0), .null, .int (nI 0), .int (kb false), .int (kb false), .int (kb false), .int (kb false), .int (kb false)]))) (h26 : G 26 k = none) : Met l yX0_init wsX0_init rm_X0_init (va_Pc [.ref (ad 25 k), .int (nI j), .int (nI d), .ref r0, .int (nI w)] (k_I g G ad)) (va_Qv (S := k_G × k_AD) (fun u => ∃ q26, u = (k_up (k_up G 25 k (.inr (0, [.int (nI j), .int (nI d), .ref r0, .int (nI w), .ref q26, .int (nI 0), .int (kb false), .int (kb false), .int (kb false), .int (kb false), .int (kb false)]))) 26 k (.inl (g.2.1 0, 10, .inl (fun j => if j < 10 then -1 else nI 0))), k_ua ad 26 k q26)) (fun u U => k_Wd g u.1 u.2 U.heap) (k_A g)) 1 10 (k_A g) := by
  refine k_met (cc := cX0_init) (maxL := 6) (ret := none) (by decide) rfl (Nat.le_of_ble_eq_true rfl) (fun p e s m args below meth c Q ls hQ hx hb hr hml hts hown hlk hin hK hZ hN hW hS hl => ?_)
  have hown : s.vm.findClass RX0 = some m.cls := hown
  have hl : lv_has ls 6 [(0, .ref (ad 25 k)), (1, .int (nI j)), (2, .int (nI d)), (3, .ref r0), (4, .int (nI w))] := hl
  have hW : k_Wd g G ad s.heap := hW
  have hinX0 : ∀ w ∈ wsX00, w ∈ wsX0_init := by decide +kernel
  refine lv_aload_n hx hb dX0_init_0 rfl (lv_at hl 0 rfl) ?_
  refine W.objInit hx hb hown (hts (.methodLink RX0 3 objectInit) (by decide +kernel)) (hts (.instanceMethod objectInit) (by decide +kernel)) (hts (.code objectInit ⟨#[0xb1]⟩ 1 none) (by decide +kernel)) rfl (hl.1.trans hml.symm) rfl dX0_init_1 (Nat.le_of_ble_eq_true rfl) (Nat.le_of_ble_eq_true rfl) ?_
  show W p l e rm_X0_init s m args below meth c s.heap [] 0 0 Q (F0 m 4 ls [])
  refine lv_aload_n hx hb dX0_init_4 rfl (lv_at hl 0 rfl) ?_
  refine lv_bipush (v := (nI 10)) hx hb dX0_init_5 (by decide) ?_
  refine k_newa hx hb 0 (ty := .int) rfl rfl (fun C9 h9 => by cases h9) (hts (.arrayClass .int) (by decide +kernel)) hK hN hW hS 26 k h26 10 (x := .inl (fun _ => nI 0)) (fun _ => rfl) rfl (by decide) (Nat.le_of_ble_eq_true rfl) (Nat.le_of_ble_eq_true rfl) (Nat.le_of_ble_eq_true rfl) dX0_init_7 (fun q26 H hW hS => ?_)
  refine k_putF (C := RX0) (T := TX0) (N := 11) (a := 25) (b := k) hx hb hts hinX0 tyX0 tyX0_ok nmX0 hown hK hW hS ((k_up_ne (fun q9 => absurd q9.1 (by decide))).trans h25) rfl 4 (by decide) (hts (.fieldLink RX0 9 "DrillVault$Copy" "kept" "[I") (by decide +kernel)) rfl rfl hin (ty := tyX0 4) (v := .ref q26) (tyX0_ok 4 (by decide)) rfl rfl (Nat.le_of_ble_eq_true rfl) dX0_init_9 (fun H locs hW hS => ?_)
  have hW : k_Wd g (k_up (k_up G 26 k (.inl (g.2.1 0, 10, .inl (fun _ => nI 0)))) 25 k (.inr (0, [.int (nI 0), .int (nI 0), .null, .int (nI 0), .ref q26, .int (nI 0), .int (kb false), .int (kb false), .int (kb false), .int (kb false), .int (kb false)]))) (k_ua ad 26 k q26) H := hW
  refine lv_aload_n hx hb dX0_init_12 rfl (lv_at hl 0 rfl) ?_
  refine lv_iload_n hx hb dX0_init_13 rfl (lv_at hl 1 rfl) ?_
  refine k_putF (C := RX0) (T := TX0) (N := 11) (a := 25) (b := k) hx hb hts hinX0 tyX0 tyX0_ok nmX0 hown hK hW hS k_up_at rfl 0 (by decide) (hts (.fieldLink RX0 15 "DrillVault$Copy" "number" "I") (by decide +kernel)) rfl rfl hin (ty := tyX0 0) (v := .int (nI j)) (tyX0_ok 0 (by decide)) rfl rfl (Nat.le_of_ble_eq_true rfl) dX0_init_14 (fun H locs hW hS => ?_)
  have hW : k_Wd g (k_up (k_up G 26 k (.inl (g.2.1 0, 10, .inl (fun _ => nI 0)))) 25 k (.inr (0, [.int (nI j), .int (nI 0), .null, .int (nI 0), .ref q26, .int (nI 0), .int (kb false), .int (kb false), .int (kb false), .int (kb false), .int (kb false)]))) (k_ua ad 26 k q26) H := by rw [k_up_same] at hW; exact hW
  refine lv_aload_n hx hb dX0_init_17 rfl (lv_at hl 0 rfl) ?_
  refine lv_iload_n hx hb dX0_init_18 rfl (lv_at hl 2 rfl) ?_
  refine k_putF (C := RX0) (T := TX0) (N := 11) (a := 25) (b := k) hx hb hts hinX0 tyX0 tyX0_ok nmX0 hown hK hW hS k_up_at rfl 1 (by decide) (hts (.fieldLink RX0 19 "DrillVault$Copy" "madeOn" "I") (by decide +kernel)) rfl rfl hin (ty := tyX0 1) (v := .int (nI d)) (tyX0_ok 1 (by decide)) rfl rfl (Nat.le_of_ble_eq_true rfl) dX0_init_19 (fun H locs hW hS => ?_)
  have hW : k_Wd g (k_up (k_up G 26 k (.inl (g.2.1 0, 10, .inl (fun _ => nI 0)))) 25 k (.inr (0, [.int (nI j), .int (nI d), .null, .int (nI 0), .ref q26, .int (nI 0), .int (kb false), .int (kb false), .int (kb false), .int (kb false), .int (kb false)]))) (k_ua ad 26 k q26) H := by rw [k_up_same] at hW; exact hW
  refine lv_aload_n hx hb dX0_init_22 rfl (lv_at hl 0 rfl) ?_
  refine lv_aload_n hx hb dX0_init_23 rfl (lv_at hl 3 rfl) ?_
  refine k_putF (C := RX0) (T := TX0) (N := 11) (a := 25) (b := k) hx hb hts hinX0 tyX0 tyX0_ok nmX0 hown hK hW hS k_up_at rfl 2 (by decide) (hts (.fieldLink RX0 22 "DrillVault$Copy" "base" "LDrillVault$Copy;") (by decide +kernel)) rfl rfl hin (ty := tyX0 2) (v := .ref r0) (tyX0_ok 2 (by decide)) rfl rfl (Nat.le_of_ble_eq_true rfl) dX0_init_24 (fun H locs hW hS => ?_)
  have hW : k_Wd g (k_up (k_up G 26 k (.inl (g.2.1 0, 10, .inl (fun _ => nI 0)))) 25 k (.inr (0, [.int (nI j), .int (nI d), .ref r0, .int (nI 0), .ref q26, .int (nI 0), .int (kb false), .int (kb false), .int (kb false), .int (kb false), .int (kb false)]))) (k_ua ad 26 k q26) H := by rw [k_up_same] at hW; exact hW
  refine lv_aload_n hx hb dX0_init_27 rfl (lv_at hl 0 rfl) ?_
  refine lv_iload hx hb dX0_init_28 (lv_at hl 4 rfl) ?_
  refine k_putF (C := RX0) (T := TX0) (N := 11) (a := 25) (b := k) hx hb hts hinX0 tyX0 tyX0_ok nmX0 hown hK hW hS k_up_at rfl 3 (by decide) (hts (.fieldLink RX0 26 "DrillVault$Copy" "changesAhead" "I") (by decide +kernel)) rfl rfl hin (ty := tyX0 3) (v := .int (nI w)) (tyX0_ok 3 (by decide)) rfl rfl (Nat.le_of_ble_eq_true rfl) dX0_init_30 (fun H locs hW hS => ?_)
  have hW : k_Wd g (k_up (k_up G 26 k (.inl (g.2.1 0, 10, .inl (fun _ => nI 0)))) 25 k (.inr (0, [.int (nI j), .int (nI d), .ref r0, .int (nI w), .ref q26, .int (nI 0), .int (kb false), .int (kb false), .int (kb false), .int (kb false), .int (kb false)]))) (k_ua ad 26 k q26) H := by rw [k_up_same] at hW; exact hW
  refine lv_iconst (v := (nI 0)) hx hb dX0_init_33 (by decide) ?_
  refine lv_istore (lv' := [(5, .int (nI 0)), (0, .ref (ad 25 k)), (1, .int (nI j)), (2, .int (nI d)), (3, .ref r0), (4, .int (nI w))]) hx hb dX0_init_34 hl (by decide) rfl (fun ls hl => ?_)
  have hW : k_Wd g (k_up (k_up G 25 k (.inr (0, [.int (nI j), .int (nI d), .ref r0, .int (nI w), .ref q26, .int (nI 0), .int (kb false), .int (kb false), .int (kb false), .int (kb false), .int (kb false)]))) 26 k (.inl (g.2.1 0, 10, .inl (fun _ => nI 0)))) (k_ua ad 26 k q26) H := by rw [k_up_comm (fun q9 => absurd q9.1 (by decide))] at hW; exact hW
  have hloop : ∀ (n i : Nat) (F1 : Nat → Int32), 10 < i + n → i ≤ 10 → (∀ j, F1 j = if j < i then -1 else nI 0) → ∀ (H : Heap) (locs : List Loc), k_Wd g (k_up (k_up G 25 k (.inr (0, [.int (nI j), .int (nI d), .ref r0, .int (nI w), .ref q26, .int (nI 0), .int (kb false), .int (kb false), .int (kb false), .int (kb false), .int (kb false)]))) 26 k (.inl (g.2.1 0, 10, .inl F1))) (k_ua ad 26 k q26) H → va_S (k_A g) s.heap H locs → ∀ (ls : Array Slot), lv_has ls 6 [(0, .ref (ad 25 k)), (5, .int (nI i))] → W p l e rm_X0_init s m args below meth c H locs 1 10 Q (F0 m 36 ls []) := by
    intro n
    induction n with
    | zero => intro i F1 hfu hi hF; exact absurd hfu (by omega)
    | succ n ih =>
      intro i F1 hfu hi hF H locs hW hS ls hl
      refine lv_iload hx hb dX0_init_36 (lv_at hl 1 rfl) ?_
      refine lv_aload_n hx hb dX0_init_38 rfl (lv_at hl 0 rfl) ?_
      refine k_get (own := RX0) (C := RX0) (T := TX0) (N := 11) (a := 25) (b := k) hx hb hts hinX0 hown hK hW ((k_up_ne (fun q9 => absurd q9.1 (by decide))).trans k_up_at) rfl 4 (by decide) (hts (.fieldLink RX0 9 "DrillVault$Copy" "kept" "[I") (by decide +kernel)) rfl (v := .ref q26) rfl dX0_init_39 ?_
      refine k_tov (y := .ref ((k_ua ad 26 k q26) 26 k)) (congrArg Value.ref (if_pos ⟨rfl, rfl⟩).symm) ?_
      refine k_alen hx hb hK hW (a := 26) (b := k) 0 rfl k_up_at (v := nI 10) rfl dX0_init_42 ?_
      refine k_icmp_ge (tgt := 60) hx hb (a := i) (b := 10) (by omega) (by decide) dX0_init_43 (by decide) (fun h_43 => ?_) (fun h_43 => ?_)
      · have hi9 : i = 10 := by omega
        have hF9 : F1 = (fun j => if j < 10 then -1 else nI 0) := funext fun j => by rw [hF j, hi9]
        subst hF9
        exact k_rvG hQ hx hb hr hlk hS hW ⟨q26, rfl⟩ (Nat.le_of_ble_eq_true rfl) (Nat.le_of_ble_eq_true rfl) dX0_init_60
      · refine lv_aload_n hx hb dX0_init_46 rfl (lv_at hl 0 rfl) ?_
        refine k_get (own := RX0) (C := RX0) (T := TX0) (N := 11) (a := 25) (b := k) hx hb hts hinX0 hown hK hW ((k_up_ne (fun q9 => absurd q9.1 (by decide))).trans k_up_at) rfl 4 (by decide) (hts (.fieldLink RX0 9 "DrillVault$Copy" "kept" "[I") (by decide +kernel)) rfl (v := .ref q26) rfl dX0_init_47 ?_
        refine k_tov (y := .ref ((k_ua ad 26 k q26) 26 k)) (congrArg Value.ref (if_pos ⟨rfl, rfl⟩).symm) ?_
        refine lv_iload hx hb dX0_init_50 (lv_at hl 1 rfl) ?_
        refine lv_iconst (v := (-1)) hx hb dX0_init_52 (by decide) ?_
        refine k_iast hx hb hK hW hS (a := 26) (b := k) (f := F1) k_up_at i rfl (by omega) (by decide) dX0_init_53 (fun H locs hW hS => ?_)
        have hW : k_Wd g (k_up (k_up G 25 k (.inr (0, [.int (nI j), .int (nI d), .ref r0, .int (nI w), .ref q26, .int (nI 0), .int (kb false), .int (kb false), .int (kb false), .int (kb false), .int (kb false)]))) 26 k (.inl (g.2.1 0, 10, .inl (va_up F1 i (-1))))) (k_ua ad 26 k q26) H := by rw [k_up_same] at hW; exact hW
        refine lv_iinc (v := nI (i + 1)) (lv' := [(5, .int (nI (i + 1))), (0, .ref (ad 25 k))]) hx hb dX0_init_54 hl (k := 1) rfl (nI_add _ _) (by decide) rfl (fun ls hl => ?_)
        refine lv_goto (tgt := 36) hx hb dX0_init_57 (by decide) ?_
        exact ih (i + 1) (va_up F1 i (-1)) (by omega) (by omega) (k_fill hF) _ _ hW hS _ (lv_sub hl [1, 0] rfl)
  exact hloop 11 0 (fun _ => nI 0) (by omega) (by omega) (fun j => by rw [if_neg (Nat.not_lt_zero j)]) _ _ hW hS _ (lv_sub hl [1, 0] rfl)
