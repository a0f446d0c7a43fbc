theorem lw_noct {n b : Nat} {x e : va_E} (hn : n = 0) (h : (if b < n then some x else none) = some e) : False := by
  subst hn
  rw [if_neg (Nat.not_lt_zero b)] at h
  cases h
/-- the first state -/
def k_t0 : k_T := ((fun _ => nI 0, fun _ => 0, fun _ => nI 0, 0, 0), (fun _ => false, 0, 3, 2, 1, fun j => if j < 365 then j % 5 else 0), (0, fun _ => 0, fun _ => none, fun _ => 0, fun _ _ => nI 0, fun _ => 0, fun _ => false, fun _ => false, fun _ => false, fun _ => false, fun _ => false), (fun _ => nI 0, fun _ => 0, 0, 0, fun _ => 0, fun _ => some 0, fun _ => 0, fun _ => 0, fun _ => nI 0), (fun _ => false, fun _ => false, fun _ => false, 0, 3, 2, 1, fun _ => false, fun _ => false, fun _ => false, fun j => if j < 365 then j % 5 else 0, 0), fun _ => 0)
theorem k_J0 : k_J k_t0 := by
  refine ⟨rfl, rfl, Nat.zero_le _, (fun j _ => by show nI 0 ≠ -1; decide), (fun k h => absurd h (Nat.not_lt_zero k)), fun j _ => rfl, fun j _ => Nat.le_refl 0, ?_, rfl, Nat.zero_le _, rfl, rfl, rfl, Nat.zero_le _, (fun j h => by cases h), rfl, rfl, rfl, (by show 3 ≤ 30; decide), (by show 2 ≤ 30; decide), (by show 1 ≤ 30; decide), rfl, ?_, (fun k h => absurd h (Nat.not_lt_zero k)), (fun k h => absurd h (Nat.not_lt_zero k)), (fun k h => absurd h (Nat.not_lt_zero k)), (fun k _ h => absurd h (Nat.not_lt_zero k)), (fun k b h => by cases h), (fun k h => absurd h (Nat.not_lt_zero k)), (fun k h => absurd h (Nat.not_lt_zero k)), (fun k h => absurd h (Nat.not_lt_zero k)), (fun k h => absurd h (Nat.not_lt_zero k)), (fun k h => absurd h (Nat.not_lt_zero k)), (fun k h => absurd h (Nat.not_lt_zero k)), (fun k h => absurd h (Nat.not_lt_zero k)), (fun k h => absurd h (Nat.not_lt_zero k)), fun _ _ => rfl, fun _ _ => rfl, fun _ _ => rfl⟩
  · intro a j h _
    have h0 : a = 0 := Nat.le_zero.mp h
    subst h0
    rfl
  · intro i _
    show (if i < 365 then i % 5 else 0) < 5
    by_cases h : i < 365
    · rw [if_pos h]; exact Nat.mod_lt _ (by decide)
    · rw [if_neg h]; decide
set_option maxRecDepth 100000 in
set_option maxHeartbeats 4000000 in
/-- the first world -/
theorem lw_first {g : k_g} {G : k_G} {ad : k_AD} {H : Heap} (hW : k_Wd g G ad H) (e0 : G 0 0 = some (.inr (4, [.ref (ad 1 0), .ref (ad 5 0), .ref (ad 7 0), .int (nI (x_d k_t0))]))) (e1 : G 1 0 = some (.inr (1, [.ref (ad 2 0), .ref (ad 3 0), .ref (ad 4 0), .int (nI (f_n k_t0))]))) (e2 : G 2 0 = some (.inl (g.2.1 0, 10, .inl (f_c k_t0)))) (e3 : G 3 0 = some (.inl (g.2.1 0, 300, .inl (fun j => nI (f_lf k_t0 j))))) (e4 : G 4 0 = some (.inl (g.2.1 0, 300, .inl (f_lt k_t0)))) (e5 : G 5 0 = some (.inr (3, [.ref (ad 6 0), .int (nI (s_md k_t0)), .int (nI (s_r1 k_t0)), .int (nI (s_r2 k_t0)), .int (nI (s_r3 k_t0))]))) (e6 : G 6 0 = some (.inl (g.2.1 3, 60, .inr (.inr (.inr (.inr (fun j => if s_th k_t0 j = true then some (ad 25 j) else none))))))) (e7 : G 7 0 = some (.inr (2, [.ref (ad 8 0)]))) (e8 : G 8 0 = some (.inl (g.2.1 0, 365, .inl (fun j => nI (r_p k_t0 j))))) (e9 : G 9 0 = some (.inr (5, [.ref (ad 10 0), .ref (ad 11 0), .int (nI (m_n k_t0)), .int (nI (m_d k_t0)), .ref (ad 12 0), .ref (ad 13 0), .ref (ad 14 0), .ref (ad 15 0), .ref (ad 16 0), .ref (ad 17 0), .ref (ad 18 0), .ref (ad 19 0), .int (nI (m_md k_t0)), .int (nI (m_r1 k_t0)), .int (nI (m_r2 k_t0)), .int (nI (m_r3 k_t0)), .ref (ad 20 0), .ref (ad 21 0), .ref (ad 22 0), .ref (ad 23 0), .int (nI (m_l k_t0))]))) (e10 : G 10 0 = some (.inl (g.2.1 0, 10, .inl (m_c k_t0)))) (e11 : G 11 0 = some (.inl (g.2.1 0, 10, .inl (fun j => nI (m_ch k_t0 j))))) (e12 : G 12 0 = some (.inl (g.2.1 0, 60, .inl (fun j => nI (m_on k_t0 j))))) (e13 : G 13 0 = some (.inl (g.2.1 0, 60, .inl (fun j => kO (m_b k_t0 j))))) (e14 : G 14 0 = some (.inl (g.2.1 0, 60, .inl (fun j => nI (m_sz k_t0 j))))) (e15 : G 15 0 = some (.inl (g.2.1 0, 60, .inl (fun j => nI (m_at k_t0 j))))) (e16 : G 16 0 = some (.inl (g.2.1 0, 600, .inl (m_k k_t0)))) (e17 : G 17 0 = some (.inl (g.2.1 1, 60, .inl (fun j => kb (m_th k_t0 j))))) (e18 : G 18 0 = some (.inl (g.2.1 1, 60, .inl (fun j => kb (m_dm k_t0 j))))) (e19 : G 19 0 = some (.inl (g.2.1 1, 60, .inl (fun j => kb (m_pv k_t0 j))))) (e20 : G 20 0 = some (.inl (g.2.1 1, 60, .inl (fun j => kb (m_pm k_t0 j))))) (e21 : G 21 0 = some (.inl (g.2.1 1, 60, .inl (fun j => kb (m_nd k_t0 j))))) (e22 : G 22 0 = some (.inl (g.2.1 1, 60, .inl (fun j => kb (m_ls k_t0 j))))) (e23 : G 23 0 = some (.inl (g.2.1 0, 365, .inl (fun j => nI (m_rt k_t0 j))))) (e24 : G 24 0 = some (.inl (g.2.1 2, 1, .inr (.inl (l_o k_t0))))) : k_H g ad k_t0 H := by
  refine hW.to (fun a b e h => ?_)
  match a, b, h with
  | 0, 0, h => exact e0.trans h
  | 0, b + 1, h => cases h
  | 1, 0, h => exact e1.trans h
  | 1, b + 1, h => cases h
  | 2, 0, h => exact e2.trans h
  | 2, b + 1, h => cases h
  | 3, 0, h => exact e3.trans h
  | 3, b + 1, h => cases h
  | 4, 0, h => exact e4.trans h
  | 4, b + 1, h => cases h
  | 5, 0, h => exact e5.trans h
  | 5, b + 1, h => cases h
  | 6, 0, h => exact e6.trans h
  | 6, b + 1, h => cases h
  | 7, 0, h => exact e7.trans h
  | 7, b + 1, h => cases h
  | 8, 0, h => exact e8.trans h
  | 8, b + 1, h => cases h
  | 9, 0, h => exact e9.trans h
  | 9, b + 1, h => cases h
  | 10, 0, h => exact e10.trans h
  | 10, b + 1, h => cases h
  | 11, 0, h => exact e11.trans h
  | 11, b + 1, h => cases h
  | 12, 0, h => exact e12.trans h
  | 12, b + 1, h => cases h
  | 13, 0, h => exact e13.trans h
  | 13, b + 1, h => cases h
  | 14, 0, h => exact e14.trans h
  | 14, b + 1, h => cases h
  | 15, 0, h => exact e15.trans h
  | 15, b + 1, h => cases h
  | 16, 0, h => exact e16.trans h
  | 16, b + 1, h => cases h
  | 17, 0, h => exact e17.trans h
  | 17, b + 1, h => cases h
  | 18, 0, h => exact e18.trans h
  | 18, b + 1, h => cases h
  | 19, 0, h => exact e19.trans h
  | 19, b + 1, h => cases h
  | 20, 0, h => exact e20.trans h
  | 20, b + 1, h => cases h
  | 21, 0, h => exact e21.trans h
  | 21, b + 1, h => cases h
  | 22, 0, h => exact e22.trans h
  | 22, b + 1, h => cases h
  | 23, 0, h => exact e23.trans h
  | 23, b + 1, h => cases h
  | 24, 0, h => exact e24.trans h
  | 24, b + 1, h => cases h
  | 25, b, h => exact absurd (show (none : Option va_E) = some e from h) (fun q => by cases q)
  | 26, b, h => exact absurd (show (none : Option va_E) = some e from h) (fun q => by cases q)
  | k + 27, b, h => cases h
set_option maxRecDepth 100000 in
set_option maxHeartbeats 8000000 in
/-- THE LAW, from its entry -/
theorem whole_start {p : Program} {e : Env} {s : State} {m : MethodId} {below : List Frame} {meth : Method} {c : Code} (l : Launch) (hflags : l.flags = flags0) {b L : Nat} {xs : Nat → Int32} (hL : L ≤ 2048) (C0 : lw_At p s m meth c b L xs) : W p l e room_1 s m #[Value.ref b] below meth c s.heap [] 0 0 (lw_Z below #[Value.ref b] s) (entryFrame m ([Value.ref b] : List Value).toArray 7) := by
  obtain ⟨hx, hb, hr, hml, hown, hts0, hX, hbl, hlocks, hgv⟩ := C0
  have hlt : l.stackTraces = false := by
    unfold Launch.stackTraces
    rw [hflags]
    decide +kernel
  have hts : ∀ w ∈ wsL_law, w.before #[Value.ref b] s = true := fun w h => hts0 w (wsL_law_in w h)
  obtain ⟨g, hg, hK, hZ⟩ := lw_known hts0 hgv
  have hown : s.vm.findClass RL = some m.cls := hown
  have C : lw_C p l s m #[Value.ref b] c g b L xs := ⟨hx, hb, hml, hown, hts, hX, hbl, hlt, hK, hZ, hg, hL⟩
  have hN : g.2.2 ≤ s.heap.size := by omega
  have hend : ∀ (H : Heap) (locs : List Loc) (cells slots : Nat) (ls : Array Slot), va_S (k_A g) s.heap H locs → cells ≤ 601024 → slots ≤ 7293034 → W p l e room_1 s m #[Value.ref b] below meth c H locs cells slots (lw_Z below #[Value.ref b] s) (F0 m 1275 ls []) := by
    intro H locs cells slots ls hS hc hs
    refine lv_iconst (v := 1) hx hb dL_law_1275 (by decide) ?_
    refine va_forget (fun q h => by have h9 : g.2.2 ≤ q.base := hS.2.2 q h; omega) ?_
    refine W.widen (k := 601024) (n := 7293034) hc hs ?_
    exact lw_ret hx hb hr hlocks dL_law_1276
  have hS : va_S (k_A g) s.heap s.heap [] := va_S.rf
  have hW : k_Wd g (fun _ _ => none) (fun _ _ => 0) s.heap := ⟨(fun a b e h => by cases h), (fun a b a' b' e e' h => by cases h)⟩
  have hl := lv_entry ([.ref b]) (n := 7) (Nat.le_of_ble_eq_true rfl)
  rw [lg_entry_eq]
  generalize (lg_sl ([.ref b]) ++ List.replicate (7 - (lg_sl ([.ref b])).length) Slot.unset).toArray = ls at hl ⊢
  have hl : lv_has ls 7 [(0, .ref b)] := hl
  refine k_new (own := RL) (C := RX4) (T := TX4) (N := 4) (ci := 4) (fs := [.null, .null, .null, .int (nI 0)]) hx hb hts inlX4 tyX4 tyX4_ok hown (hts (.classLink RL 8 RX4) (by decide +kernel)) (hts (.instantiable RX4 4) (by decide +kernel)) (hts (.initialized RX4) (by decide +kernel)) hK hN hW hS 0 0 rfl rfl dfX4 (Nat.le_of_ble_eq_true rfl) (Nat.le_of_ble_eq_true rfl) dL_law_0 (fun q0 H hW hS => ?_)
  refine lv_dup hx hb dL_law_3 rfl ?_
  refine k_cvG (va_runI (As := []) (rest := [.ref q0]) ⟨hx, hb, hml, hown, hts⟩ (c_X4_init l hlt g _ _ k_up_at rfl rfl rfl rfl rfl rfl rfl rfl) (cwI 0 hts gL_law_X4_init rfl rfl rfl (hts (.initialized RX4) (by decide +kernel)) (hts (.methodLink RL 74 yX4_init) (by decide +kernel)) (hts (.instanceMethod yX4_init) (by decide +kernel)) rfl (by decide +kernel) ⟨(Nat.le_of_ble_eq_true rfl), (Nat.le_of_ble_eq_true rfl)⟩) ⟨k_blind, fun U hU hw => ⟨rfl, k_I.of hK hZ hN hS hW hU hw⟩⟩ rfl rfl hl.1 rfl (lv_room (Nat.le_of_ble_eq_true rfl)) dL_law_4 ⟨(Nat.le_of_ble_eq_true rfl), (Nat.le_of_ble_eq_true rfl)⟩) hS (fun u H locs hpo hW hS => ?_)
  obtain ⟨G1, ad1⟩ := u
  have hW : k_Wd g G1 ad1 H := hW
  obtain ⟨q1, q2, q3, q4, q5, q6, q7, q8, hu9⟩ := hpo
  cases hu9
  refine lv_astore_n (lv' := [(1, .ref q0), (0, .ref b)]) hx hb dL_law_7 rfl hl (by decide) rfl (fun ls hl => ?_)
  refine k_new (own := RL) (C := RX5) (T := TX5) (N := 21) (ci := 5) (fs := [.null, .null, .int (nI 0), .int (nI 0), .null, .null, .null, .null, .null, .null, .null, .null, .int (nI 0), .int (nI 0), .int (nI 0), .int (nI 0), .null, .null, .null, .null, .int (nI 0)]) hx hb hts inlX5 tyX5 tyX5_ok hown (hts (.classLink RL 75 RX5) (by decide +kernel)) (hts (.instantiable RX5 21) (by decide +kernel)) (hts (.initialized RX5) (by decide +kernel)) hK hN hW hS 9 0 rfl rfl dfX5 (Nat.le_of_ble_eq_true rfl) (Nat.le_of_ble_eq_true rfl) dL_law_8 (fun q9 H hW hS => ?_)
  refine lv_dup hx hb dL_law_11 rfl ?_
  refine k_cvG (va_runI (As := []) (rest := [.ref q9]) ⟨hx, hb, hml, hown, hts⟩ (c_X5_init l hlt g _ _ k_up_at rfl rfl rfl rfl rfl rfl rfl rfl rfl rfl rfl rfl rfl rfl) (cwI 0 hts gL_law_X5_init rfl rfl rfl (hts (.initialized RX5) (by decide +kernel)) (hts (.methodLink RL 77 yX5_init) (by decide +kernel)) (hts (.instanceMethod yX5_init) (by decide +kernel)) rfl (by decide +kernel) ⟨(Nat.le_of_ble_eq_true rfl), (Nat.le_of_ble_eq_true rfl)⟩) ⟨k_blind, fun U hU hw => ⟨rfl, k_I.of hK hZ hN hS hW hU hw⟩⟩ rfl rfl hl.1 rfl (lv_room (Nat.le_of_ble_eq_true rfl)) dL_law_12 ⟨(Nat.le_of_ble_eq_true rfl), (Nat.le_of_ble_eq_true rfl)⟩) hS (fun u H locs hpo hW hS => ?_)
  obtain ⟨G1, ad1⟩ := u
  have hW : k_Wd g G1 ad1 H := hW
  obtain ⟨q10, q11, q12, q13, q14, q15, q16, q17, q18, q19, q20, q21, q22, q23, hu9⟩ := hpo
  cases hu9
  refine lv_astore_n (lv' := [(2, .ref q9), (1, .ref q0), (0, .ref b)]) hx hb dL_law_15 rfl hl (by decide) rfl (fun ls hl => ?_)
  refine lv_iconst (v := nI 1) hx hb dL_law_16 (by decide) ?_
  refine k_newa hx hb 2 (ty := .long) rfl rfl (fun C9 h9 => by cases h9) (hts (.arrayClass .long) (by decide +kernel)) hK hN hW hS 24 0 rfl 1 (x := .inr (.inl (fun _ => 0))) (fun _ => rfl) rfl (by decide) (Nat.le_of_ble_eq_true rfl) (Nat.le_of_ble_eq_true rfl) (Nat.le_of_ble_eq_true rfl) dL_law_17 (fun q24 H hW hS => ?_)
  refine lv_astore_n (lv' := [(3, .ref q24), (2, .ref q9), (1, .ref q0), (0, .ref b)]) hx hb dL_law_19 rfl hl (by decide) rfl (fun ls hl => ?_)
  refine lv_iconst (v := nI 0) hx hb dL_law_20 (by decide) ?_
  refine lv_istore (lv' := [(4, .int (nI 0)), (3, .ref q24), (2, .ref q9), (1, .ref q0), (0, .ref b)]) hx hb dL_law_21 hl (by decide) rfl (fun ls hl => ?_)
  have hW := lw_first hW rfl rfl rfl rfl rfl rfl rfl rfl rfl rfl rfl rfl rfl rfl rfl rfl rfl rfl rfl rfl rfl rfl rfl rfl rfl
  refine W.widen (k := 1000) (n := 100000) (Nat.le_of_ble_eq_true rfl) (Nat.le_of_ble_eq_true rfl) ?_
  exact lw_loop C hend 513 0 _ k_t0 H _ 1000 100000 ls (by omega) (Nat.zero_le _) (by omega) (by omega) hW k_J0 hS (lv_sub hl [4, 3, 2, 1, 0] rfl)
