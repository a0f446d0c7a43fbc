/-! THE LAW'S BODY: its frame, its operands, what is behind the two calls -/
/-- what holds all through the law's body -/
def lw_C (p : Program) (l : Launch) (s : State) (m : MethodId) (args : Array Value) (c : Code) (g : k_g) (b L : Nat) (xs : Nat → Int32) : Prop :=
  p.tables.exec = Jvm.exec ∧ c.code = code ∧ c.maxLocals = 7 ∧ s.vm.findClass RL = some m.cls ∧ (∀ w ∈ wsL_law, w.before args s = true) ∧ va_X b L xs s s.heap ∧ b < s.heap.size ∧ l.stackTraces = false ∧ k_K g s ∧ k_Z g s s.heap ∧ g.2.2 = s.heap.size ∧ L ≤ 2048
/-- the law's locals at the head of a round -/
abbrev lw_lv (ad : k_AD) (b i : Nat) : List (Nat × Value) := [(0, .ref b), (1, .ref (ad 0 0)), (2, .ref (ad 9 0)), (3, .ref (ad 24 0)), (4, .int (nI i))]
theorem lw_lv_to {ad ad1 : k_AD} {b i : Nat} {ls : Array Slot} (a0 : ad1 0 0 = ad 0 0) (a9 : ad1 9 0 = ad 9 0) (a24 : ad1 24 0 = ad 24 0) (hl : lv_has ls 7 (lw_lv ad b i)) : lv_has ls 7 (lw_lv ad1 b i) := by
  show lv_has ls 7 [(0, .ref b), (1, .ref (ad1 0 0)), (2, .ref (ad1 9 0)), (3, .ref (ad1 24 0)), (4, .int (nI i))]
  rw [a0, a9, a24]; exact hl
section LawRows
variable {p : Program} {l : Launch} {e : Env} {s : State} {m : MethodId} {args : Array Value} {below : List Frame} {meth : Method} {c : Code} {H : Heap} {locs : List Loc} {cells slots : Nat} {Q : State → Prop}
variable {g : k_g} {ad : k_AD} {b L i : Nat} {xs : Nat → Int32} {ls : Array Slot} {rest : List Value} {t : k_T}
/-- behind a round: what the next one needs -/
abbrev lw_K (p : Program) (l : Launch) (e : Env) (s : State) (m : MethodId) (args : Array Value) (below : List Frame) (meth : Method) (c : Code) (g : k_g) (b i cells slots : Nat) (Q : State → Prop) : Prop :=
  ∀ (ad : k_AD) (t : k_T) (H : Heap) (locs : List Loc) (ls : Array Slot), k_H g ad t H → k_J t → va_S (k_A g) s.heap H locs → lv_has ls 7 (lw_lv ad b i) → W p l e room_1 s m args below meth c H locs (cells + 20) (slots + 200) Q (F0 m 1269 ls [])
theorem lw_va {R : Room} {mc ms : Nat} {f : JFrame} {Qa : State → Outcome → State → Prop} {free : Addr → Prop} (hr : vx_Run p l e R s m args below meth c H locs cells slots mc ms f rest Qa (fun _ _ _ => False) free) : va_Run p l e R s m args below meth c H locs cells slots mc ms f rest Qa free := by
  intro T hT X
  rcases hr T hT X with h | ⟨q, st, t9, T9, L9, E9, ce, h0, h1, h2, h3, h4, h5, h6⟩
  · exact h
  · exact h5.elim
/-- script[i + j] on the stack -/
theorem lw_opnd (C : lw_C p l s m args c g b L xs) (hS : va_S (k_A g) s.heap H locs) {lv : List (Nat × Value)} (hl : lv_has ls 7 lv) (q0 q4 : Nat) (h0 : lv[q0]? = some (0, .ref b)) (h4 : lv[q4]? = some (4, .int (nI i))) (j : Nat) (hj : i + j < L) {pc : Nat} {n : Int} (hn : Int32.ofInt n = nI j)
    (d0 : decode code pc = .ok (.aload_n 0, 1)) (d1 : decode code (pc + 1) = .ok (.iload 4, 2)) (d3 : decode code (pc + 3) = .ok (.iconst n, 1)) (d4 : decode code (pc + 4) = .ok (.iadd, 1)) (d5 : decode code (pc + 5) = .ok (.iaload, 1))
    (kk : W p l e room_1 s m args below meth c H locs cells slots Q (F0 m (pc + 6) ls (.int (xs (i + j)) :: rest))) : W p l e room_1 s m args below meth c H locs cells slots Q (F0 m pc ls rest) := by
  obtain ⟨hx, hb, hml, hown, hts, hX, hbl, hlt, hK, hZ, hg, hL⟩ := C
  have hbA : ¬ k_A g b := fun h => by have h : g.2.2 ≤ b := h; omega
  refine lv_aload_n hx hb d0 rfl (lv_at hl q0 h0) ?_
  refine lv_iload hx hb d1 (lv_at hl q4 h4) ?_
  refine lv_iconst (v := nI j) hx hb d3 hn ?_
  refine k_iadd hx hb d4 ?_
  refine va_sld hx hb hX hbl hbA hS (vp_in_nI hj (by omega)) d5 ?_
  rw [nI_clamp (by omega)]
  exact kk
theorem lw_cl {cells k mc : Nat} (h : cells + 20 ≤ 601024) (h1 : k + mc ≤ 20) : cells + k + mc ≤ room_1.cells := by
  show cells + k + mc ≤ 601024
  omega
theorem lw_sl {slots k ms : Nat} (h : slots + 200 ≤ 7293034) (h1 : k + ms ≤ 200) : slots + k + ms ≤ room_1.slots := by
  show slots + k + ms ≤ 7293034
  omega
/-- the model's thrown() -/
theorem lw_thr (C : lw_C p l s m args c g b L xs) (hc : cells ≤ 601024) (hs : slots ≤ 7293034) (hS : va_S (k_A g) s.heap H locs) (hW : k_H g ad t H) (hz : ls.size = 7) {pc : Nat} (d : decode code pc = .ok (.invokevirtual 84, 3))
    (kk : ∀ (H : Heap) (locs : List Loc), k_H g ad t H → va_S (k_A g) s.heap H locs → W p l e room_1 s m args below meth c H locs cells slots Q (F0 m (pc + 3) ls [.int (nI (m_l t))])) : W p l e room_1 s m args below meth c H locs cells slots Q (F0 m pc ls [.ref (ad 9 0)]) := by
  obtain ⟨hx, hb, hml, hown, hts, hX, hbl, hlt, hK, hZ, hg, hL⟩ := C
  have hN : g.2.2 ≤ s.heap.size := by omega
  refine k_ci (va_runV (As := []) (rest := []) ⟨hx, hb, hml, hown, hts⟩ (c_X5_thrown l hlt g ad t) (cwV 0 hts gL_law_X5_thrown rfl rfl rfl (by decide +kernel) ⟨Nat.le_of_ble_eq_true rfl, Nat.le_of_ble_eq_true rfl⟩) ⟨k_blind, k_recv hK hW (kc_9 g ad t) rfl, fun U hU hw => ⟨rfl, k_I.of hK hZ hN hS hW hU hw⟩⟩ rfl rfl hz rfl (lv_room (Nat.le_of_ble_eq_true rfl)) d ⟨(show cells + 0 ≤ 601024 from hc), (show slots + 0 ≤ 7293034 from hs)⟩) hS (fun r u H locs hpo hW hS => ?_)
  obtain ⟨rfl, hu⟩ := hpo
  have hW : k_H g ad t H := by rw [← hu]; exact hW
  exact kk H locs hW hS
theorem lw_0 {k : Nat} (hk : k < 2 ^ 31) (h : nI k = 0) : k = 0 := (nI_eq hk (by decide)).mp h
/-- behind the model's call, numbers -/
theorem lw_tail (C : lw_C p l s m args c g b L xs) (hc : cells ≤ 601024) (hs : slots ≤ 7293034) (hS : va_S (k_A g) s.heap H locs) (hW : k_H g ad t H) {k : Nat} (hk : k < 2 ^ 31) {rv : Int32} (hl : lv_has ls 7 ((5, .int (nI k)) :: lw_lv ad b i)) (hm : m_l t = k) (ho : k = 0 → l_o t 0 = rv.toInt64) {pc : Nat} {og : Int}
    (d0 : decode code pc = .ok (.istore 6, 2)) (d2 : decode code (pc + 2) = .ok (.aload_n 2, 1)) (d3 : decode code (pc + 3) = .ok (.invokevirtual 84, 3)) (d6 : decode code (pc + 6) = .ok (.iload 5, 2)) (d8 : decode code (pc + 8) = .ok (.if_icmp .eq 5, 3)) (d13 : decode code (pc + 13) = .ok (.iload 5, 2)) (d15 : decode code (pc + 15) = .ok (.ifCond .ne 15, 3)) (d18 : decode code (pc + 18) = .ok (.aload_n 3, 1)) (d19 : decode code (pc + 19) = .ok (.iconst 0, 1)) (d20 : decode code (pc + 20) = .ok (.laload, 1)) (d21 : decode code (pc + 21) = .ok (.iload 6, 2)) (d23 : decode code (pc + 23) = .ok (.i2l, 1)) (d24 : decode code (pc + 24) = .ok (.lcmp, 1)) (d25 : decode code (pc + 25) = .ok (.ifCond .eq 5, 3)) (d30 : decode code (pc + 30) = .ok (.goto og, 3)) (hgo : ((pc + 30 : Nat) : Int) + og = ((1269 : Nat) : Int))
    (kk : ∀ (H : Heap) (locs : List Loc) (ls : Array Slot), k_H g ad t H → va_S (k_A g) s.heap H locs → lv_has ls 7 (lw_lv ad b i) → W p l e room_1 s m args below meth c H locs cells slots Q (F0 m 1269 ls [])) : W p l e room_1 s m args below meth c H locs cells slots Q (F0 m pc ls [.int rv]) := by
  obtain ⟨hx, hb, hml, hown, hts, hX, hbl, hlt, hK, hZ, hg, hL⟩ := id C
  refine lv_istore (lv' := (6, .int rv) :: (5, .int (nI k)) :: lw_lv ad b i) hx hb d0 hl (by decide) rfl (fun ls hl => ?_)
  refine lv_aload_n hx hb d2 rfl (lv_at hl 4 rfl) ?_
  refine lw_thr C hc hs hS hW hl.1 d3 (fun H locs hW hS => ?_)
  have hend : W p l e room_1 s m args below meth c H locs cells slots Q (F0 m (pc + 30) ls []) := lv_goto (tgt := 1269) hx hb d30 hgo (kk H locs ls hW hS (lv_sub hl [2, 3, 4, 5, 6] rfl))
  refine lv_iload hx hb d6 (lv_at hl 1 rfl) ?_
  refine lv_icmp_eq (tgt := pc + 13) hx hb d8 (by omega) (fun _ => ?_) (fun h => absurd (by rw [hm]) h)
  refine lv_iload hx hb d13 (lv_at hl 1 rfl) ?_
  refine lv_if_ne (tgt := pc + 30) hx hb d15 (by omega) (fun _ => hend) (fun h0 => ?_)
  refine lv_aload_n hx hb d18 rfl (lv_at hl 5 rfl) ?_
  refine lv_iconst (v := nI 0) hx hb d19 (by decide) ?_
  refine k_lald hx hb hK hW (kc_24 g ad t) 0 rfl (by decide) (by decide) d20 ?_
  refine lv_iload hx hb d21 (lv_at hl 0 rfl) ?_
  refine lv_i2l hx hb (v := rv.toInt64) d23 rfl ?_
  refine W.lcmp hx hb d24 ?_
  refine lv_if_eq (tgt := pc + 30) hx hb d25 (by omega) (fun _ => hend) (fun h => absurd ((lg_cmp_eq _ _).mpr (ho (lw_0 hk h0))) h)
/-- behind the model's call, booleans -/
theorem lw_tailz (C : lw_C p l s m args c g b L xs) (hc : cells ≤ 601024) (hs : slots ≤ 7293034) (hS : va_S (k_A g) s.heap H locs) (hW : k_H g ad t H) {k : Nat} (hk : k < 2 ^ 31) {rv : Int32} (hl : lv_has ls 7 ((5, .int (nI k)) :: lw_lv ad b i)) (hm : m_l t = k) (ho : k = 0 → ∃ q : Bool, rv = kb q ∧ l_o t 0 = k_bl q) {pc : Nat} {og : Int}
    (d0 : decode code pc = .ok (.istore 6, 2)) (d2 : decode code (pc + 2) = .ok (.aload_n 2, 1)) (d3 : decode code (pc + 3) = .ok (.invokevirtual 84, 3)) (d6 : decode code (pc + 6) = .ok (.iload 5, 2)) (d8 : decode code (pc + 8) = .ok (.if_icmp .eq 5, 3)) (d13 : decode code (pc + 13) = .ok (.iload 5, 2)) (d15 : decode code (pc + 15) = .ok (.ifCond .ne 22, 3)) (d18 : decode code (pc + 18) = .ok (.aload_n 3, 1)) (d19 : decode code (pc + 19) = .ok (.iconst 0, 1)) (d20 : decode code (pc + 20) = .ok (.laload, 1)) (d21 : decode code (pc + 21) = .ok (.iload 6, 2)) (d23 : decode code (pc + 23) = .ok (.ifCond .eq 7, 3)) (d26 : decode code (pc + 26) = .ok (.lconst 1, 1)) (d27 : decode code (pc + 27) = .ok (.goto 4, 3)) (d30 : decode code (pc + 30) = .ok (.lconst 0, 1)) (d31 : decode code (pc + 31) = .ok (.lcmp, 1)) (d32 : decode code (pc + 32) = .ok (.ifCond .eq 5, 3)) (d37 : decode code (pc + 37) = .ok (.goto og, 3)) (hgo : ((pc + 37 : Nat) : Int) + og = ((1269 : Nat) : Int))
    (kk : ∀ (H : Heap) (locs : List Loc) (ls : Array Slot), k_H g ad t H → va_S (k_A g) s.heap H locs → lv_has ls 7 (lw_lv ad b i) → W p l e room_1 s m args below meth c H locs cells slots Q (F0 m 1269 ls [])) : W p l e room_1 s m args below meth c H locs cells slots Q (F0 m pc ls [.int rv]) := by
  obtain ⟨hx, hb, hml, hown, hts, hX, hbl, hlt, hK, hZ, hg, hL⟩ := id C
  refine lv_istore (lv' := (6, .int rv) :: (5, .int (nI k)) :: lw_lv ad b i) hx hb d0 hl (by decide) rfl (fun ls hl => ?_)
  refine lv_aload_n hx hb d2 rfl (lv_at hl 4 rfl) ?_
  refine lw_thr C hc hs hS hW hl.1 d3 (fun H locs hW hS => ?_)
  have hend : W p l e room_1 s m args below meth c H locs cells slots Q (F0 m (pc + 37) ls []) := lv_goto (tgt := 1269) hx hb d37 hgo (kk H locs ls hW hS (lv_sub hl [2, 3, 4, 5, 6] rfl))
  refine lv_iload hx hb d6 (lv_at hl 1 rfl) ?_
  refine lv_icmp_eq (tgt := pc + 13) hx hb d8 (by omega) (fun _ => ?_) (fun h => absurd (by rw [hm]) h)
  refine lv_iload hx hb d13 (lv_at hl 1 rfl) ?_
  refine lv_if_ne (tgt := pc + 37) hx hb d15 (by omega) (fun _ => hend) (fun h0 => ?_)
  obtain ⟨q, hq, ho⟩ := ho (lw_0 hk h0)
  refine lv_aload_n hx hb d18 rfl (lv_at hl 5 rfl) ?_
  refine lv_iconst (v := nI 0) hx hb d19 (by decide) ?_
  refine k_lald hx hb hK hW (kc_24 g ad t) 0 rfl (by decide) (by decide) d20 ?_
  refine lv_iload hx hb d21 (lv_at hl 0 rfl) ?_
  have hfin : ∀ v : Int64, v = k_bl q → W p l e room_1 s m args below meth c H locs cells slots Q (F0 m (pc + 31) ls [.long v, .long (l_o t 0)]) := by
    intro v hv
    refine W.lcmp hx hb d31 ?_
    exact lv_if_eq (tgt := pc + 37) hx hb d32 (by omega) (fun _ => hend) (fun h => absurd ((lg_cmp_eq _ _).mpr (by rw [hv]; exact ho)) h)
  refine lv_if_eq (tgt := pc + 30) hx hb d23 (by omega) (fun h => ?_) (fun h => ?_)
  · refine lv_lconst (v := 0) hx hb d30 rfl ?_
    refine hfin 0 ?_
    cases q with
    | false => rfl
    | true => rw [hq] at h; exact absurd h (by decide)
  · refine lv_lconst (v := 1) hx hb d26 rfl ?_
    refine lv_goto (tgt := pc + 31) hx hb d27 (by omega) ?_
    refine hfin 1 ?_
    cases q with
    | false => rw [hq] at h; exact absurd rfl h
    | true => rfl
end LawRows
