theorem lw_and31 (a : Int32) : ∃ v, v < 32 ∧ a &&& nI 31 = nI v := by
  refine ⟨(a.toBitVec &&& 31#32).toNat, ?_, ?_⟩
  · rw [BitVec.toNat_and]
    have h : a.toBitVec.toNat &&& 31 ≤ 31 := Nat.and_le_right
    have e : (31#32).toNat = 31 := rfl
    rw [e]; omega
  · refine Int32.toBitVec_inj.mp ?_
    have e1 : (nI 31).toBitVec = 31#32 := rfl
    have e2 : (nI (a.toBitVec &&& 31#32).toNat).toBitVec = BitVec.ofNat 32 (a.toBitVec &&& 31#32).toNat := rfl
    rw [Int32.toBitVec_and, e1, e2, BitVec.ofNat_toNat, BitVec.setWidth_eq]
theorem lw_gt {L i : Nat} (hL : L ≤ 2048) (hi : i ≤ 4096) : nI L - nI 4 < nI i ↔ L < i + 4 := by
  rw [Int32.lt_iff_toInt_lt, pk_sub_toInt (by omega) (by omega), nI_toInt (by omega)]
  omega
section LawLoop
variable {p : Program} {l : Launch} {e : Env} {s : State} {m : MethodId} {args : Array Value} {below : List Frame} {meth : Method} {c : Code} {H : Heap} {locs : List Loc} {cells slots : Nat} {Q : State → Prop}
variable {g : k_g} {ad : k_AD} {b L i : Nat} {xs : Nat → Int32} {ls : Array Slot} {t : k_T}
set_option maxRecDepth 100000 in
set_option maxHeartbeats 4000000 in
/-- one round of the law's loop, behind its test -/
theorem lw_round (C : lw_C p l s m args c g b L xs) (hi : i + 3 < L) (hc : cells + 20 ≤ 601024) (hs : slots + 200 ≤ 7293034) (hS : va_S (k_A g) s.heap H locs) (hW : k_H g ad t H) (hl : lv_has ls 7 (lw_lv ad b i)) (J : k_J t) (kk : lw_K p l e s m args below meth c g b i cells slots Q) : W p l e room_1 s m args below meth c H locs cells slots Q (F0 m 32 ls []) := by
  obtain ⟨hx, hb, hml, hown, hts, hX, hbl, hlt, hK, hZ, hg, hL⟩ := id C
  have hbA : ¬ k_A g b := fun h => by have h : g.2.2 ≤ b := h; omega
  refine lv_aload_n hx hb dL_law_32 rfl (lv_at hl 0 rfl) ?_
  refine lv_iload hx hb dL_law_33 (lv_at hl 4 rfl) ?_
  refine va_sld hx hb hX hbl hbA hS (vp_in_nI (n := i) (by omega) (by omega)) dL_law_35 ?_
  refine lv_bipush (v := nI 31) hx hb dL_law_36 (by decide) ?_
  refine lv_iand hx hb dL_law_38 ?_
  obtain ⟨v, hv, hxv⟩ := lw_and31 (xs (nI i).toNatClampNeg)
  refine k_toi hxv ?_
  by_cases h0 : v = 0
  · subst h0
    exact lv_tableIn (off := 101) (tgt := 140) hx hb dL_law_39 (by decide) (by decide) (by decide +kernel) (by decide) (lw_b_change C hi hc hs hS hW hl (pa_change l hlt g ad t J _ _) kk)
  by_cases h1 : v = 1
  · subst h1
    exact lv_tableIn (off := 169) (tgt := 208) hx hb dL_law_39 (by decide) (by decide) (by decide +kernel) (by decide) (lw_b_pass C hi hc hs hS hW hl (pa_pass l hlt g ad t J _) kk)
  by_cases h2 : v = 2
  · subst h2
    exact lv_tableIn (off := 225) (tgt := 264) hx hb dL_law_39 (by decide) (by decide) (by decide +kernel) (by decide) (lw_b_full C hi hc hs hS hW hl (pa_full l hlt g ad t J) kk)
  by_cases h3 : v = 3
  · subst h3
    exact lv_tableIn (off := 269) (tgt := 308) hx hb dL_law_39 (by decide) (by decide) (by decide +kernel) (by decide) (lw_b_increment C hi hc hs hS hW hl (pa_increment l hlt g ad t J) kk)
  by_cases h4 : v = 4
  · subst h4
    exact lv_tableIn (off := 313) (tgt := 352) hx hb dL_law_39 (by decide) (by decide) (by decide +kernel) (by decide) (lw_b_damage C hi hc hs hS hW hl (pa_damage l hlt g ad t J _) kk)
  by_cases h5 : v = 5
  · subst h5
    exact lv_tableIn (off := 369) (tgt := 408) hx hb dL_law_39 (by decide) (by decide) (by decide +kernel) (by decide) (lw_b_drill C hi hc hs hS hW hl (pa_drill l hlt g ad t J _) kk)
  by_cases h6 : v = 6
  · subst h6
    exact lv_tableIn (off := 425) (tgt := 464) hx hb dL_law_39 (by decide) (by decide) (by decide +kernel) (by decide) (lw_b_setRules C hi hc hs hS hW hl (pa_setRules l hlt g ad t J _ _ _) kk)
  by_cases h7 : v = 7
  · subst h7
    exact lv_tableIn (off := 505) (tgt := 544) hx hb dL_law_39 (by decide) (by decide) (by decide +kernel) (by decide) (lw_b_thin C hi hc hs hS hW hl (pa_thin l hlt g ad t J) kk)
  by_cases h8 : v = 8
  · subst h8
    exact lv_tableIn (off := 518) (tgt := 557) hx hb dL_law_39 (by decide) (by decide) (by decide +kernel) (by decide) (lw_b_day C hi hc hs hS hW hl (pa_day l hlt g ad t J) kk)
  by_cases h9 : v = 9
  · subst h9
    exact lv_tableIn (off := 531) (tgt := 570) hx hb dL_law_39 (by decide) (by decide) (by decide +kernel) (by decide) (lw_b_copies C hi hc hs hS hW hl (pa_copies l hlt g ad t J) kk)
  by_cases h10 : v = 10
  · subst h10
    exact lv_tableIn (off := 544) (tgt := 583) hx hb dL_law_39 (by decide) (by decide) (by decide +kernel) (by decide) (lw_b_space C hi hc hs hS hW hl (pa_space l hlt g ad t J) kk)
  by_cases h11 : v = 11
  · subst h11
    exact lv_tableIn (off := 557) (tgt := 596) hx hb dL_law_39 (by decide) (by decide) (by decide +kernel) (by decide) (lw_b_dayOf C hi hc hs hS hW hl (pa_dayOf l hlt g ad t J _) kk)
  by_cases h12 : v = 12
  · subst h12
    exact lv_tableIn (off := 613) (tgt := 652) hx hb dL_law_39 (by decide) (by decide) (by decide +kernel) (by decide) (lw_b_baseOf C hi hc hs hS hW hl (pa_baseOf l hlt g ad t J _) kk)
  by_cases h13 : v = 13
  · subst h13
    exact lv_tableIn (off := 669) (tgt := 708) hx hb dL_law_39 (by decide) (by decide) (by decide +kernel) (by decide) (lw_b_keeps C hi hc hs hS hW hl (pa_keeps l hlt g ad t J _) kk)
  by_cases h14 : v = 14
  · subst h14
    exact lv_tableIn (off := 725) (tgt := 764) hx hb dL_law_39 (by decide) (by decide) (by decide +kernel) (by decide) (lw_b_isPromised C hi hc hs hS hW hl (pa_isPromised l hlt g ad t J _) kk)
  by_cases h15 : v = 15
  · subst h15
    exact lv_tableIn (off := 788) (tgt := 827) hx hb dL_law_39 (by decide) (by decide) (by decide +kernel) (by decide) (lw_b_isNeeded C hi hc hs hS hW hl (pa_isNeeded l hlt g ad t J _) kk)
  by_cases h16 : v = 16
  · subst h16
    exact lv_tableIn (off := 851) (tgt := 890) hx hb dL_law_39 (by decide) (by decide) (by decide +kernel) (by decide) (lw_b_isProved C hi hc hs hS hW hl (pa_isProved l hlt g ad t J _) kk)
  by_cases h17 : v = 17
  · subst h17
    exact lv_tableIn (off := 914) (tgt := 953) hx hb dL_law_39 (by decide) (by decide) (by decide +kernel) (by decide) (lw_b_restore C hi hc hs hS hW hl (pa_restore l hlt g ad t J _ _) kk)
  by_cases h18 : v = 18
  · subst h18
    exact lv_tableIn (off := 982) (tgt := 1021) hx hb dL_law_39 (by decide) (by decide) (by decide +kernel) (by decide) (lw_b_restoreByChanges C hi hc hs hS hW hl (pa_restoreByChanges l hlt g ad t J _ _) kk)
  by_cases h19 : v = 19
  · subst h19
    exact lv_tableIn (off := 1050) (tgt := 1089) hx hb dL_law_39 (by decide) (by decide) (by decide +kernel) (by decide) (lw_b_onCall C hi hc hs hS hW hl (pa_onCall l hlt g ad t J _) kk)
  by_cases h20 : v = 20
  · subst h20
    exact lv_tableIn (off := 1106) (tgt := 1145) hx hb dL_law_39 (by decide) (by decide) (by decide +kernel) (by decide) (lw_b_swap C hi hc hs hS hW hl (pa_swap l hlt g ad t J _ _) kk)
  by_cases h21 : v = 21
  · subst h21
    exact lv_tableIn (off := 1174) (tgt := 1213) hx hb dL_law_39 (by decide) (by decide) (by decide +kernel) (by decide) (lw_b_alarm C hi hc hs hS hW hl (pa_alarm l hlt g ad t J _) kk)
  refine lv_tableOut (tgt := 1269) hx hb dL_law_39 (Or.inr ?_) (by decide) (W.widen (k := cells + 20) (n := slots + 200) (by omega) (by omega) (kk _ _ _ _ _ hW J hS hl))
  rw [nI_toInt (by omega)]
  omega
set_option maxHeartbeats 4000000 in
/-- the law's loop, from its test on -/
theorem lw_loop (C : lw_C p l s m args c g b L xs) (hend : ∀ (H : Heap) (locs : List Loc) (cells slots : Nat) (ls : Array Slot), va_S (k_A g) s.heap H locs → cells ≤ 601024 → slots ≤ 7293034 → W p l e room_1 s m args below meth c H locs cells slots Q (F0 m 1275 ls [])) : ∀ (n i : Nat) (ad : k_AD) (t : k_T) (H : Heap) (locs : List Loc) (cells slots : Nat) (ls : Array Slot), L < i + 4 * n → i ≤ L → cells ≤ 1000 + 5 * i → slots ≤ 100000 + 50 * i → k_H g ad t H → k_J t → va_S (k_A g) s.heap H locs → lv_has ls 7 (lw_lv ad b i) → W p l e room_1 s m args below meth c H locs cells slots Q (F0 m 23 ls []) := by
  obtain ⟨hx, hb, hml, hown, hts, hX, hbl, hlt, hK, hZ, hg, hL⟩ := id C
  have hbA : ¬ k_A g b := fun h => by have h : g.2.2 ≤ b := h; omega
  intro n
  induction n with
  | zero => intro i ad t H locs cells slots ls h1 h2; omega
  | succ n ih =>
    intro i ad t H locs cells slots ls h1 h2 hc hs hW J hS hl
    refine lv_iload hx hb dL_law_23 (lv_at hl 4 rfl) ?_
    refine lv_aload_n hx hb dL_law_25 rfl (lv_at hl 0 rfl) ?_
    refine va_slen hx hb hX hbl hbA hS dL_law_26 ?_
    refine lv_iconst (v := nI 4) hx hb dL_law_27 (by decide) ?_
    refine lv_isub hx hb dL_law_28 ?_
    refine lv_icmp_gt (tgt := 1275) hx hb dL_law_29 (by decide) (fun _ => hend H locs cells slots ls hS (by omega) (by omega)) (fun h => ?_)
    have hi : i + 3 < L := by
      rcases Nat.lt_or_ge (i + 3) L with q | q
      · exact q
      · exact absurd ((lw_gt hL (by omega)).mpr (by omega)) h
    refine lw_round C hi (by omega) (by omega) hS hW hl J (fun ad t H locs ls hW J hS hl => ?_)
    refine lv_iinc (v := nI (i + 4)) (lv' := (4, .int (nI (i + 4))) :: [(0, .ref b), (1, .ref (ad 0 0)), (2, .ref (ad 9 0)), (3, .ref (ad 24 0))]) hx hb dL_law_1269 hl (k := 4) rfl (nI_add i 4) (by decide) rfl (fun ls hl => ?_)
    refine lv_goto (tgt := 23) hx hb dL_law_1272 (by decide) ?_
    exact ih (i + 4) ad t H locs (cells + 20) (slots + 200) ls (by omega) (by omega) (by omega) (by omega) hW J hS (lv_sub hl [1, 2, 3, 4, 0] rfl)
end LawLoop
