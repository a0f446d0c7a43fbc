/-! THE LAW'S SCRIPT, one cell below the world -/
section Script
variable {p : Program} {l : Launch} {e : Env} {R : Room} {s : State} {m : MethodId} {args : Array Value} {below : List Frame} {meth : Method} {c : Code} {H : Heap} {locs : List Loc} {cells slots : Nat} {Q : State → Prop}
variable {cc : ByteArray} {pc : Nat} {ls : Array Slot} {rest st0 : List Value} {g : k_g} {G : k_G} {ad : k_AD} {mc ms : Nat} {a : Array Value} {XC : String → State → State → Prop}
theorem k_metS {b L : Nat} {xs : Nat → Int32} {y : MethodName} {ws ws' : List Cond} {rm : Room} {Qc : Array Value → State → Outcome → State → Prop} {av : List Value} {cc : ByteArray} {maxL : Nat} {ret : Option FieldType} (hy : plainName y.cls = true) (hw : ws = Cond.code y cc maxL ret :: ws') (hle : (lg_sl av).length ≤ maxL)
  (body : ∀ (p : Program) (e : Env) (s : State) (m : MethodId) (args : Array Value) (below : List Frame) (meth : Method) (c : Code) (Q : State → Prop) (ls : Array Slot), Q = MQ below Qc args s mc ms (k_A g) → p.tables.exec = Jvm.exec → c.code = cc → meth.sig.returnType = ret → c.maxLocals = maxL → (∀ w ∈ ws, w.before args s = true) → s.vm.findClass y.cls = some m.cls → meth.locks = false → meth.name = y.name → k_K g s → k_Z g s s.heap → g.2.2 ≤ s.heap.size → k_Wd g G ad s.heap → va_X b L xs s s.heap → va_S (k_A g) s.heap s.heap [] → lv_has ls maxL (lv_args 0 av) → W p l e rm s m args below meth c s.heap [] 0 0 Q (F0 m 0 ls [])) : Met l y ws rm (va_Pc av (fun U => k_I g G ad U ∧ va_X b L xs U U.heap)) Qc mc ms (k_A g) := by
  refine Met.ofW (cc := cc) (maxL := maxL) (ret := ret) hy hw ?_
  intro p e s m args below meth c s₁ B hml hv
  obtain ⟨rfl, ⟨hK, hZ, hN, hW⟩, hX⟩ := hv
  rw [lg_entry_eq]
  exact body p e s m _ below meth c _ _ rfl B.exec B.bytes B.returns hml (atoms_spec (ws := ws) B.pre) (findClass_of_methodNamed B.named) B.notSynchronized (name_of_methodNamed B.named B.method).1 hK hZ hN hW hX va_S.rf (lv_entry av hle)
theorem k_metHS {b L : Nat} {xs : Nat → Int32} {y : MethodName} {ws ws' : List Cond} {rm : Room} {Qc : Array Value → State → Outcome → State → Prop} {av : List Value} {cc : ByteArray} {maxL : Nat} {ret : Option FieldType} {hh : List (Nat × Nat × Nat × Nat)} (hy : plainName y.cls = true) (hw : ws = Cond.codeWith y cc maxL ret hh :: ws') (hle : (lg_sl av).length ≤ maxL)
  (body : ∀ (p : Program) (e : Env) (s : State) (m : MethodId) (args : Array Value) (below : List Frame) (meth : Method) (c : Code) (Q : State → Prop) (ls : Array Slot), Q = vx_MQ below Qc XC args s mc ms (k_A g) → p.tables.exec = Jvm.exec → c.code = cc → meth.sig.returnType = ret → c.maxLocals = maxL → (∀ w ∈ ws, w.before args s = true) → s.vm.findClass y.cls = some m.cls → meth.locks = false → c.exceptionTable.toList = tableOf hh → k_K g s → k_Z g s s.heap → g.2.2 ≤ s.heap.size → k_Wd g G ad s.heap → va_X b L xs s s.heap → va_S (k_A g) s.heap s.heap [] → lv_has ls maxL (lv_args 0 av) → W p l e rm s m args below meth c s.heap [] 0 0 Q (F0 m 0 ls [])) : vx_Met l y ws rm (va_Pc av (fun U => k_I g G ad U ∧ va_X b L xs U U.heap)) Qc XC mc ms (k_A g) := by
  refine vx_ofWH (cc := cc) (maxL := maxL) (ret := ret) (hh := hh) hy hw ?_
  intro p e s m args below meth c s₁ B hml hv
  obtain ⟨rfl, ⟨hK, hZ, hN, hW⟩, hX⟩ := hv
  rw [lg_entry_eq]
  have hts := atoms_spec (ws := ws) B.pre
  exact body p e s m _ below meth c _ _ rfl B.exec B.bytes B.returns hml hts (findClass_of_methodNamed B.named) B.notSynchronized (vx_table (x := y) B (hts _ (by rw [hw]; exact List.mem_cons_self))) hK hZ hN hW hX va_S.rf (lv_entry av hle)
theorem k_blindX {av : List Value} {b L : Nat} {xs : Nat → Int32} : FrameBlind (va_Pc av (fun U => k_I g G ad U ∧ va_X b L xs U U.heap)) := fun a U fr mk h => ⟨h.1, (k_blind (av := av) a U fr mk ⟨h.1, h.2.1⟩).2, va_X.moved (U := U.calling fr mk a) (Vm.Alike.refl U.vm) h.2.2⟩
theorem k_Xof {U : State} {b L : Nat} {xs : Nat → Int32} (hX : va_X b L xs s s.heap) (hbg : b < g.2.2) (hN : g.2.2 ≤ s.heap.size) (hS : va_S (k_A g) s.heap H locs) (hU : U.heap = H) (hw : s.WarmedH U.vm) : va_X b L xs U U.heap := by
  rw [hU]
  exact (hX.kept (hS.2.1 b (Nat.lt_of_lt_of_le hbg hN) (fun q => Nat.lt_irrefl b (Nat.lt_of_lt_of_le hbg q)))).moved hw.alike
end Script
theorem q_msk (y : Int32) : ∃ n, n < 2 ^ 31 ∧ y &&& nI 2147483647 = nI n := by
  refine ⟨y.toBitVec.toNat % 2 ^ 31, Nat.mod_lt _ (by decide), b_ext fun i hi => ?_⟩
  rw [b_and, bt_nI _ hi, bt_nI _ hi, show (2147483647 : Nat) = 2 ^ 31 - 1 from rfl, Nat.testBit_two_pow_sub_one, Nat.testBit_mod_two_pow, Bool.and_comm]
  rfl
abbrev rm_L_from : Room := { frames := 0, cells := 0, slots := 0, locals := 0 }
set_option maxRecDepth 100000 in
set_option maxHeartbeats 4000000 in
/-- what the law takes out of its script -/
theorem c_L_from (l : Launch) (hlt : l.stackTraces = false) (g : k_g) (ad : k_AD) (t : k_T) (b L : Nat) (xs : Nat → Int32) (k w : Nat) (hbg : b < g.2.2) (hL : L < 2 ^ 31) (hk : k < 2 ^ 31) (hw0 : 0 < w) (hw1 : w < 2 ^ 31) : Met l yL_from wsL_from rm_L_from (va_Pc [.ref b, .int (nI k), .int (nI w)] (fun U => k_I g (k_ct g ad t) ad U ∧ va_X b L xs U U.heap)) (va_Qi (fun r u => (∃ v, v < w ∧ r = nI v) ∧ u = t) (fun u U => k_H g ad u U.heap) (k_A g)) 0 0 (k_A g) := by
  refine k_metS (cc := cL_from) (maxL := 4) (ret := (some .int)) (by decide) rfl (Nat.le_of_ble_eq_true rfl) (fun p e s m args below meth c Q ls hQ hx hb hr hml hts hown hlk hin hK hZ hN hW hX hS hl => ?_)
  have hown : s.vm.findClass RL = some m.cls := hown
  have hW : k_H g ad t s.heap := hW
  have hl : lv_has ls 4 [(0, .ref b), (1, .int (nI k)), (2, .int (nI w))] := hl
  have hbl : b < s.heap.size := Nat.lt_of_lt_of_le hbg hN
  have hbA : ¬ k_A g b := fun q => Nat.lt_irrefl b (Nat.lt_of_lt_of_le hbg q)
  have htail : ∀ y : Int32, W p l e rm_L_from s m args below meth c s.heap [] 0 0 Q (F0 m 28 ls [.int y]) := by
    intro y
    refine lv_istore_n (lv' := [(3, .int y), (0, .ref b), (1, .int (nI k)), (2, .int (nI w))]) hx hb dL_from_28 rfl hl (by decide) rfl (fun ls hl => ?_)
    refine lv_iload_n hx hb dL_from_29 rfl (lv_at hl 0 rfl) ?_
    refine lv_ldc (own := RL) (v := nI 2147483647) hx hb hown (hts (.constant RL 8 (nI 2147483647)) (by decide +kernel)) dL_from_30 ?_
    refine lv_iand hx hb dL_from_32 ?_
    obtain ⟨n9, hn9, he9⟩ := q_msk y
    refine k_toi he9 ?_
    refine lv_iload_n hx hb dL_from_33 rfl (lv_at hl 3 rfl) ?_
    refine lv_irem hx hb dL_from_34 (fun q => by have := (nI_eq (a := w) (b := 0) hw1 (by decide)).mp q; omega) ?_
    refine k_toi (pk_rem hn9 hw0 hw1) ?_
    exact k_ri hQ hx hb hr hlk hS hW ⟨⟨_, Nat.mod_lt _ hw0, rfl⟩, rfl⟩ (Nat.le_of_ble_eq_true rfl) (Nat.le_of_ble_eq_true rfl) dL_from_35
  refine lv_aload_n hx hb dL_from_0 rfl (lv_at hl 0 rfl) ?_
  refine va_slen hx hb hX hbl hbA hS dL_from_1 ?_
  refine k_toi (y := nI L) rfl ?_
  refine k_if_ne (tgt := 17) hx hb (a := L) hL dL_from_2 (by decide) (fun h_2 => ?_) (fun h_2 => ?_)
  · refine lv_aload_n hx hb dL_from_17 rfl (lv_at hl 0 rfl) ?_
    refine lv_iload_n hx hb dL_from_18 rfl (lv_at hl 1 rfl) ?_
    refine lv_aload_n hx hb dL_from_19 rfl (lv_at hl 0 rfl) ?_
    refine va_slen hx hb hX hbl hbA hS dL_from_20 ?_
    refine k_toi (y := nI L) rfl ?_
    refine lv_irem hx hb dL_from_21 (fun q => by have := (nI_eq (a := L) (b := 0) hL (by decide)).mp q; omega) ?_
    refine k_toi (pk_rem hk (by omega) hL) ?_
    refine va_sld hx hb hX hbl hbA hS (vp_in_nI (Nat.mod_lt _ (by omega)) hL) dL_from_22 ?_
    refine lv_ldc (own := RL) (v := nI 172787) hx hb hown (hts (.constant RL 7 (nI 172787)) (by decide +kernel)) dL_from_23 ?_
    refine lv_iload_n hx hb dL_from_25 rfl (lv_at hl 1 rfl) ?_
    refine lv_imul hx hb dL_from_26 ?_
    refine lv_ixor hx hb dL_from_27 ?_
    exact htail _
  · refine lv_sipush (v := nI 211) hx hb dL_from_5 (by decide) ?_
    refine lv_iload_n hx hb dL_from_8 rfl (lv_at hl 1 rfl) ?_
    refine lv_imul hx hb dL_from_9 ?_
    refine lv_sipush (v := nI 181) hx hb dL_from_10 (by decide) ?_
    refine lv_iadd hx hb dL_from_13 ?_
    refine lv_goto (tgt := 28) hx hb dL_from_14 (by decide) ?_
    exact htail _
