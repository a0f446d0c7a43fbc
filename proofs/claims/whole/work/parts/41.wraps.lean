section XRows
variable {p : Program} {l : Launch} {e : Env} {R : Room} {s : State} {m : MethodId} {args : Array Value} {below : List Frame} {meth : Method} {c : Code} {H : Heap} {locs : List Loc} {cells slots : Nat} {Q : State → Prop}
variable {cc : ByteArray} {pc : Nat} {ls : Array Slot} {rest st0 : List Value} {g : k_g} {G : k_G} {ad : k_AD} {mc ms : Nat} {a : Array Value} {XC : String → State → State → Prop}
theorem k_metH {y : MethodName} {ws ws' : List Cond} {rm : Room} {Qc : Array Value → State → Outcome → State → Prop} {av : List Value} {cc : ByteArray} {maxL : Nat} {ret : Option FieldType} {hh : List (Nat × Nat × Nat × Nat)} (hy : plainName y.cls = true) (hw : ws = Cond.codeWith y cc maxL ret hh :: ws') (hle : (lg_sl av).length ≤ maxL)
  (body : ∀ (p : Program) (e : Env) (s : State) (m : MethodId) (args : Array Value) (below : List Frame) (meth : Method) (c : Code) (Q : State → Prop) (ls : Array Slot), Q = vx_MQ below Qc XC args s mc ms (k_A g) → p.tables.exec = Jvm.exec → c.code = cc → meth.sig.returnType = ret → c.maxLocals = maxL → (∀ w ∈ ws, w.before args s = true) → s.vm.findClass y.cls = some m.cls → meth.locks = false → c.exceptionTable.toList = tableOf hh → k_K g s → k_Z g s s.heap → g.2.2 ≤ s.heap.size → k_Wd g G ad s.heap → va_S (k_A g) s.heap s.heap [] → lv_has ls maxL (lv_args 0 av) → W p l e rm s m args below meth c s.heap [] 0 0 Q (F0 m 0 ls [])) : vx_Met l y ws rm (va_Pc av (k_I g G ad)) Qc XC mc ms (k_A g) := by
  refine vx_ofWH (cc := cc) (maxL := maxL) (ret := ret) (hh := hh) hy hw ?_
  intro p e s m args below meth c s₁ B hml hv
  obtain ⟨rfl, hK, hZ, hN, hW⟩ := hv
  rw [lg_entry_eq]
  have hts := atoms_spec (ws := ws) B.pre
  exact body p e s m _ below meth c _ _ rfl B.exec B.bytes B.returns hml hts (findClass_of_methodNamed B.named) B.notSynchronized (vx_table (x := y) B (hts _ (by rw [hw]; exact List.mem_cons_self))) hK hZ hN hW va_S.rf (lv_entry av hle)
theorem k_riX {post : Int32 → k_T × k_AD → Prop} {r : Int32} {t : k_T} (hQ : Q = vx_MQ below (va_Qi (S := k_T × k_AD) post (fun u U => k_H g u.2 u.1 U.heap) (k_A g)) XC args s mc ms (k_A g)) (hx : p.tables.exec = Jvm.exec) (hb : c.code = cc) (hr : meth.sig.returnType = some .int) (hlk : meth.locks = false) (hS : va_S (k_A g) s.heap H locs) (hW : k_H g ad t H) (hp : post r (t, ad)) (hc : cells ≤ mc) (hs : slots ≤ ms) (hd : decode cc pc = .ok (.ireturn, 1)) : W p l e R s m args below meth c H locs cells slots Q (F0 m pc ls [.int r]) := by
  subst hQ
  exact vx_ret (k_riA rfl hx hb hr hlk hS hW hp hc hs hd)
theorem k_ciA {post : Int32 → k_T × k_AD → Prop} (hr : va_Run p l e R s m args below meth c H locs cells slots mc ms (F0 m pc ls st0) rest (va_Qi (S := k_T × k_AD) post (fun u U => k_H g u.2 u.1 U.heap) (k_A g) a) (k_A g)) (hS : va_S (k_A g) s.heap H locs)
    (kk : ∀ (r : Int32) (u : k_T × k_AD) (H1 : Heap) (locs1 : List Loc), post r u → k_H g u.2 u.1 H1 → va_S (k_A g) s.heap H1 locs1 → W p l e R s m args below meth c H1 locs1 (cells + mc) (slots + ms) Q (F0 m (pc + 3) ls (.int r :: rest))) : W p l e R s m args below meth c H locs cells slots Q (F0 m pc ls st0) :=
  va_calli hr hS (fun _ _ h => h) (fun _ h => h) (fun r u t H1 locs1 ht _ hp hb _ _ hS1 => kk r u H1 locs1 hp (ht ▸ hb) hS1)
theorem k_xc {t : k_T} {E0 : String} {pre suf : List ExceptionTableEntry} {x : ExceptionTableEntry} (hr : vx_Run p l e R s m args below meth c H locs cells slots mc ms (F0 m pc ls st0) rest (va_Qv (fun _ => False) (fun u U => k_H g ad u U.heap) (k_A g) a) (vx_X (fun u => u = t) (fun E u U => E = E0 ∧ k_H g ad u U.heap) (k_A g)) (k_A g)) (hS : va_S (k_A g) s.heap H locs) (hK : k_K g s) (hown : s.vm.findClass RL = some m.cls) (tab : c.exceptionTable.toList = pre ++ x :: suf)
    (hpass : ∀ z ∈ pre, z.catchType ≠ 0 ∧ ∃ nm : String, (Cond.classLink RL z.catchType nm).before args s = true ∧ (E0, nm) ∈ k_ncs) (hcov : covers x pc = true) (h0 : x.catchType ≠ 0) (hlink : (Cond.classLink RL x.catchType E0).before args s = true) (hcast : (E0, E0) ∈ k_cast)
    (kk : ∀ (q : Nat) (H1 : Heap) (locs1 : List Loc), k_H g ad t H1 → va_S (k_A g) s.heap H1 locs1 → W p l e R s m args below meth c H1 locs1 (cells + mc) (slots + ms) Q (F0 m x.handlerPc ls [.ref q])) : W p l e R s m args below meth c H locs cells slots Q (F0 m pc ls st0) := by
  refine vx_callv hr hS (fun _ _ h => h) (fun _ h => h) (fun _ _ h => h) (fun E ce q9 u t9 H1 locs1 ht _ hp hB _ _ hS1 hce hcv hcl => ?_) (fun u t9 H1 locs1 ht _ hp _ _ _ _ => hp.elim)
  obtain ⟨rfl, hB2⟩ := hB
  subst hp
  refine vx_catch hown pre x suf tab (fun z hz => Or.inr ?_) hcov h0 hlink (k_Ca.use (hK.2.2.2.2.1 _ hcast)) hce hcv hcl (kk q9 H1 locs1 (ht ▸ hB2) hS1)
  obtain ⟨h1, nm, h2, h3⟩ := hpass z hz
  exact ⟨h1, nm, h2, hK.2.2.2.2.2.1 _ h3⟩
end XRows
def k_bl (b : Bool) : Int64 := if b = true then 1 else 0
abbrev rm_L_change : Room := { frames := 8, cells := 3, slots := 18, locals := 133 }
set_option maxRecDepth 100000 in
set_option maxHeartbeats 4000000 in
theorem cw_change_bf (l : Launch) (hlt : l.stackTraces = false) (g : k_g) (ad : k_AD) (t : k_T) (z : Int32) (v : Int32) (hz : z < 0 ∨ nI 10 ≤ z) : vx_Met l yL_change wsL_change rm_L_change (va_Pc [.ref (ad 0 0), .int z, .int v, .ref (ad 24 0)] (k_I g (k_ct g ad t) ad)) (va_Qi (S := k_T × k_AD) (fun r u => r = nI 1 ∧ u.1 = t ∧ u.2 = ad) (fun u U => k_H g u.2 u.1 U.heap) (k_A g)) (fun _ _ _ => False) 3 18 (k_A g) := by
  refine k_metH (cc := cL_change) (maxL := 5) (ret := (some .int)) (by decide) rfl (Nat.le_of_ble_eq_true rfl) (fun p e s m args below meth c Q ls hQ hx hb hr hml hts hown hlk htab hK hZ hN hW hS hl => ?_)
  have hown : s.vm.findClass RL = some m.cls := hown
  have hW : k_H g ad t s.heap := hW
  have hl : lv_has ls 5 [(0, .ref (ad 0 0)), (1, .int z), (2, .int v), (3, .ref (ad 24 0))] := hl
  refine lv_aload_n hx hb dL_change_0 rfl (lv_at hl 3 rfl) ?_
  refine lv_iconst (v := nI 0) hx hb dL_change_1 (by decide) ?_
  refine lv_aload_n hx hb dL_change_2 rfl (lv_at hl 0 rfl) ?_
  refine lv_iload_n hx hb dL_change_3 rfl (lv_at hl 1 rfl) ?_
  refine lv_iload_n hx hb dL_change_4 rfl (lv_at hl 2 rfl) ?_
  refine k_xc (E0 := "java/lang/IndexOutOfBoundsException") (pre := []) (x := ⟨0, 10, 13, 13⟩) (suf := [⟨0, 10, 17, 15⟩, ⟨0, 10, 21, 17⟩]) (vx_runV (As := [.int z, .int v]) (rest := [.int (nI 0), .ref (ad 24 0)]) ⟨hx, hb, hml, hown, hts⟩ (c_X4_change_bf l hlt g ad t z v hz) (cwV 2 hts gL_change_X4_change rfl rfl rfl (by decide +kernel) ⟨(Nat.le_of_ble_eq_true rfl), (Nat.le_of_ble_eq_true rfl)⟩) ⟨k_blind, k_recv hK hW (kc_0 g ad t) rfl, fun U hU hw => ⟨rfl, k_I.of hK hZ hN hS hW hU hw⟩⟩ rfl rfl hl.1 rfl (lv_room (Nat.le_of_ble_eq_true rfl)) dL_change_5 ⟨(Nat.le_of_ble_eq_true rfl), (Nat.le_of_ble_eq_true rfl)⟩) hS hK hown (htab.trans rfl) (fun _ h9 => absurd h9 List.not_mem_nil) rfl (by decide) (hts (.classLink RL 13 "java/lang/IndexOutOfBoundsException") (by decide +kernel)) (by decide +kernel) (fun q9 H locs hW hS => ?_)
  refine lv_astore (lv' := [(4, .ref q9), (0, .ref (ad 0 0)), (1, .int z), (2, .int v), (3, .ref (ad 24 0))]) hx hb dL_change_13 hl (by decide) rfl (fun ls hl => ?_)
  refine lv_iconst (v := nI 1) hx hb dL_change_15 (by decide) ?_
  exact k_riX hQ hx hb hr hlk hS hW ⟨rfl, rfl, rfl⟩ (Nat.le_of_ble_eq_true rfl) (Nat.le_of_ble_eq_true rfl) dL_change_16
set_option maxRecDepth 100000 in
set_option maxHeartbeats 4000000 in
theorem cw_change_bc (l : Launch) (hlt : l.stackTraces = false) (g : k_g) (ad : k_AD) (t : k_T) (j : Nat) (z : Int32) (hj : j < 10) (hz : z < 0 ∨ nI 99 < z) : vx_Met l yL_change wsL_change rm_L_change (va_Pc [.ref (ad 0 0), .int (nI j), .int z, .ref (ad 24 0)] (k_I g (k_ct g ad t) ad)) (va_Qi (S := k_T × k_AD) (fun r u => r = nI 2 ∧ u.1 = t ∧ u.2 = ad) (fun u U => k_H g u.2 u.1 U.heap) (k_A g)) (fun _ _ _ => False) 3 18 (k_A g) := by
  refine k_metH (cc := cL_change) (maxL := 5) (ret := (some .int)) (by decide) rfl (Nat.le_of_ble_eq_true rfl) (fun p e s m args below meth c Q ls hQ hx hb hr hml hts hown hlk htab hK hZ hN hW hS hl => ?_)
  have hown : s.vm.findClass RL = some m.cls := hown
  have hW : k_H g ad t s.heap := hW
  have hl : lv_has ls 5 [(0, .ref (ad 0 0)), (1, .int (nI j)), (2, .int z), (3, .ref (ad 24 0))] := hl
  refine lv_aload_n hx hb dL_change_0 rfl (lv_at hl 3 rfl) ?_
  refine lv_iconst (v := nI 0) hx hb dL_change_1 (by decide) ?_
  refine lv_aload_n hx hb dL_change_2 rfl (lv_at hl 0 rfl) ?_
  refine lv_iload_n hx hb dL_change_3 rfl (lv_at hl 1 rfl) ?_
  refine lv_iload_n hx hb dL_change_4 rfl (lv_at hl 2 rfl) ?_
  refine k_xc (E0 := "java/lang/IllegalArgumentException") (pre := [⟨0, 10, 13, 13⟩]) (x := ⟨0, 10, 17, 15⟩) (suf := [⟨0, 10, 21, 17⟩]) (vx_runV (As := [.int (nI j), .int z]) (rest := [.int (nI 0), .ref (ad 24 0)]) ⟨hx, hb, hml, hown, hts⟩ (c_X4_change_bc l hlt g ad t j z hj hz) (cwV 2 hts gL_change_X4_change rfl rfl rfl (by decide +kernel) ⟨(Nat.le_of_ble_eq_true rfl), (Nat.le_of_ble_eq_true rfl)⟩) ⟨k_blind, k_recv hK hW (kc_0 g ad t) rfl, fun U hU hw => ⟨rfl, k_I.of hK hZ hN hS hW hU hw⟩⟩ rfl rfl hl.1 rfl (lv_room (Nat.le_of_ble_eq_true rfl)) dL_change_5 ⟨(Nat.le_of_ble_eq_true rfl), (Nat.le_of_ble_eq_true rfl)⟩) hS hK hown (htab.trans rfl) (List.forall_mem_cons.mpr ⟨⟨by decide, "java/lang/IndexOutOfBoundsException", hts (.classLink RL 13 "java/lang/IndexOutOfBoundsException") (by decide +kernel), by decide +kernel⟩, (fun _ h9 => absurd h9 List.not_mem_nil)⟩) rfl (by decide) (hts (.classLink RL 15 "java/lang/IllegalArgumentException") (by decide +kernel)) (by decide +kernel) (fun q9 H locs hW hS => ?_)
  refine lv_astore (lv' := [(4, .ref q9), (0, .ref (ad 0 0)), (1, .int (nI j)), (2, .int z), (3, .ref (ad 24 0))]) hx hb dL_change_17 hl (by decide) rfl (fun ls hl => ?_)
  refine lv_iconst (v := nI 2) hx hb dL_change_19 (by decide) ?_
  exact k_riX hQ hx hb hr hlk hS hW ⟨rfl, rfl, rfl⟩ (Nat.le_of_ble_eq_true rfl) (Nat.le_of_ble_eq_true rfl) dL_change_20
set_option maxRecDepth 100000 in
set_option maxHeartbeats 4000000 in
theorem cw_change_fu (l : Launch) (hlt : l.stackTraces = false) (g : k_g) (ad : k_AD) (t : k_T) (j : Nat) (v : Int32) (hj : j < 10) (hv1 : ¬ v < 0) (hv2 : v ≤ nI 99) (hn : f_n t ≤ 300) (hfull : 300 ≤ f_n t) : vx_Met l yL_change wsL_change rm_L_change (va_Pc [.ref (ad 0 0), .int (nI j), .int v, .ref (ad 24 0)] (k_I g (k_ct g ad t) ad)) (va_Qi (S := k_T × k_AD) (fun r u => r = nI 3 ∧ u.1 = t ∧ u.2 = ad) (fun u U => k_H g u.2 u.1 U.heap) (k_A g)) (fun _ _ _ => False) 3 18 (k_A g) := by
  refine k_metH (cc := cL_change) (maxL := 5) (ret := (some .int)) (by decide) rfl (Nat.le_of_ble_eq_true rfl) (fun p e s m args below meth c Q ls hQ hx hb hr hml hts hown hlk htab hK hZ hN hW hS hl => ?_)
  have hown : s.vm.findClass RL = some m.cls := hown
  have hW : k_H g ad t s.heap := hW
  have hl : lv_has ls 5 [(0, .ref (ad 0 0)), (1, .int (nI j)), (2, .int v), (3, .ref (ad 24 0))] := hl
  refine lv_aload_n hx hb dL_change_0 rfl (lv_at hl 3 rfl) ?_
  refine lv_iconst (v := nI 0) hx hb dL_change_1 (by decide) ?_
  refine lv_aload_n hx hb dL_change_2 rfl (lv_at hl 0 rfl) ?_
  refine lv_iload_n hx hb dL_change_3 rfl (lv_at hl 1 rfl) ?_
  refine lv_iload_n hx hb dL_change_4 rfl (lv_at hl 2 rfl) ?_
  refine k_xc (E0 := "java/lang/IllegalStateException") (pre := [⟨0, 10, 13, 13⟩, ⟨0, 10, 17, 15⟩]) (x := ⟨0, 10, 21, 17⟩) (suf := []) (vx_runV (As := [.int (nI j), .int v]) (rest := [.int (nI 0), .ref (ad 24 0)]) ⟨hx, hb, hml, hown, hts⟩ (c_X4_change_fu l hlt g ad t j v hj hv1 hv2 hn hfull) (cwV 2 hts gL_change_X4_change rfl rfl rfl (by decide +kernel) ⟨(Nat.le_of_ble_eq_true rfl), (Nat.le_of_ble_eq_true rfl)⟩) ⟨k_blind, k_recv hK hW (kc_0 g ad t) rfl, fun U hU hw => ⟨rfl, k_I.of hK hZ hN hS hW hU hw⟩⟩ rfl rfl hl.1 rfl (lv_room (Nat.le_of_ble_eq_true rfl)) dL_change_5 ⟨(Nat.le_of_ble_eq_true rfl), (Nat.le_of_ble_eq_true rfl)⟩) hS hK hown (htab.trans rfl) (List.forall_mem_cons.mpr ⟨⟨by decide, "java/lang/IndexOutOfBoundsException", hts (.classLink RL 13 "java/lang/IndexOutOfBoundsException") (by decide +kernel), by decide +kernel⟩, (List.forall_mem_cons.mpr ⟨⟨by decide, "java/lang/IllegalArgumentException", hts (.classLink RL 15 "java/lang/IllegalArgumentException") (by decide +kernel), by decide +kernel⟩, (fun _ h9 => absurd h9 List.not_mem_nil)⟩)⟩) rfl (by decide) (hts (.classLink RL 17 "java/lang/IllegalStateException") (by decide +kernel)) (by decide +kernel) (fun q9 H locs hW hS => ?_)
  refine lv_astore (lv' := [(4, .ref q9), (0, .ref (ad 0 0)), (1, .int (nI j)), (2, .int v), (3, .ref (ad 24 0))]) hx hb dL_change_21 hl (by decide) rfl (fun ls hl => ?_)
  refine lv_iconst (v := nI 3) hx hb dL_change_23 (by decide) ?_
  exact k_riX hQ hx hb hr hlk hS hW ⟨rfl, rfl, rfl⟩ (Nat.le_of_ble_eq_true rfl) (Nat.le_of_ble_eq_true rfl) dL_change_24
set_option maxRecDepth 100000 in
set_option maxHeartbeats 4000000 in
theorem cw_change_ok (l : Launch) (hlt : l.stackTraces = false) (g : k_g) (ad : k_AD) (t : k_T) (j : Nat) (v : Int32) (hj : j < 10) (hv1 : ¬ v < 0) (hv2 : v ≤ nI 99) (hfr : f_n t < 300) : vx_Met l yL_change wsL_change rm_L_change (va_Pc [.ref (ad 0 0), .int (nI j), .int v, .ref (ad 24 0)] (k_I g (k_ct g ad t) ad)) (va_Qi (S := k_T × k_AD) (fun r u => r = nI 0 ∧ u.1 = set_l_o (set_f_n (set_f_lt (set_f_lf (set_f_c t (va_up (f_c t) j v)) (va_up (f_lf t) (f_n t) j)) (va_up (f_lt t) (f_n t) v)) (f_n t + 1)) (va_up (l_o t) 0 ((f_c t j).toInt64)) ∧ u.2 = ad) (fun u U => k_H g u.2 u.1 U.heap) (k_A g)) (fun _ _ _ => False) 3 18 (k_A g) := by
  refine k_metH (cc := cL_change) (maxL := 5) (ret := (some .int)) (by decide) rfl (Nat.le_of_ble_eq_true rfl) (fun p e s m args below meth c Q ls hQ hx hb hr hml hts hown hlk htab hK hZ hN hW hS hl => ?_)
  have hown : s.vm.findClass RL = some m.cls := hown
  have hW : k_H g ad t s.heap := hW
  have hl : lv_has ls 5 [(0, .ref (ad 0 0)), (1, .int (nI j)), (2, .int v), (3, .ref (ad 24 0))] := hl
  refine lv_aload_n hx hb dL_change_0 rfl (lv_at hl 3 rfl) ?_
  refine lv_iconst (v := nI 0) hx hb dL_change_1 (by decide) ?_
  refine lv_aload_n hx hb dL_change_2 rfl (lv_at hl 0 rfl) ?_
  refine lv_iload_n hx hb dL_change_3 rfl (lv_at hl 1 rfl) ?_
  refine lv_iload_n hx hb dL_change_4 rfl (lv_at hl 2 rfl) ?_
  refine k_ci (va_runV (As := [.int (nI j), .int v]) (rest := [.int (nI 0), .ref (ad 24 0)]) ⟨hx, hb, hml, hown, hts⟩ (c_X4_change_ok l hlt g ad t j v hj hv1 hv2 hfr) (cwV 2 hts gL_change_X4_change rfl rfl rfl (by decide +kernel) ⟨(Nat.le_of_ble_eq_true rfl), (Nat.le_of_ble_eq_true rfl)⟩) ⟨k_blind, k_recv hK hW (kc_0 g ad t) rfl, fun U hU hw => ⟨rfl, k_I.of hK hZ hN hS hW hU hw⟩⟩ rfl rfl hl.1 rfl (lv_room (Nat.le_of_ble_eq_true rfl)) dL_change_5 ⟨(Nat.le_of_ble_eq_true rfl), (Nat.le_of_ble_eq_true rfl)⟩) hS (fun r u H locs hpo hW hS => ?_)
  obtain ⟨hr9, hu9⟩ := hpo; replace hu9 := hu9.symm; subst hu9; replace hr9 := hr9.symm; subst hr9
  have hW : k_H g ad (set_f_n (set_f_lt (set_f_lf (set_f_c t (va_up (f_c t) j v)) (va_up (f_lf t) (f_n t) j)) (va_up (f_lt t) (f_n t) v)) (f_n t + 1)) H := hW
  refine lv_i2l hx hb (v := (f_c t j).toInt64) dL_change_8 rfl ?_
  refine k_last hx hb hK hW hS (kc_24 g ad (set_f_n (set_f_lt (set_f_lf (set_f_c t (va_up (f_c t) j v)) (va_up (f_lf t) (f_n t) j)) (va_up (f_lt t) (f_n t) v)) (f_n t + 1))) 0 rfl (by omega) (by decide) dL_change_9 (fun H locs hW hS => ?_)
  have hW : k_H g ad (set_l_o (set_f_n (set_f_lt (set_f_lf (set_f_c t (va_up (f_c t) j v)) (va_up (f_lf t) (f_n t) j)) (va_up (f_lt t) (f_n t) v)) (f_n t + 1)) (va_up (l_o t) 0 ((f_c t j).toInt64))) H := kt_l_o (t := set_f_n (set_f_lt (set_f_lf (set_f_c t (va_up (f_c t) j v)) (va_up (f_lf t) (f_n t) j)) (va_up (f_lt t) (f_n t) v)) (f_n t + 1)) 0 ((f_c t j).toInt64) hW
  refine lv_goto (tgt := 25) hx hb dL_change_10 (by decide) ?_
  refine lv_iconst (v := nI 0) hx hb dL_change_25 (by decide) ?_
  exact k_riX hQ hx hb hr hlk hS hW ⟨rfl, rfl, rfl⟩ (Nat.le_of_ble_eq_true rfl) (Nat.le_of_ble_eq_true rfl) dL_change_26
abbrev rm_L_pass : Room := { frames := 7, cells := 2, slots := 12, locals := 111 }
set_option maxRecDepth 100000 in
set_option maxHeartbeats 4000000 in
theorem cw_pass_b (l : Launch) (hlt : l.stackTraces = false) (g : k_g) (ad : k_AD) (t : k_T) (z : Int32) (hz : z < nI 1 ∨ nI 30 < z) : vx_Met l yL_pass wsL_pass rm_L_pass (va_Pc [.ref (ad 0 0), .int z, .ref (ad 24 0)] (k_I g (k_ct g ad t) ad)) (va_Qi (S := k_T × k_AD) (fun r u => r = nI 1 ∧ u.1 = t ∧ u.2 = ad) (fun u U => k_H g u.2 u.1 U.heap) (k_A g)) (fun _ _ _ => False) 2 12 (k_A g) := by
  refine k_metH (cc := cL_pass) (maxL := 4) (ret := (some .int)) (by decide) rfl (Nat.le_of_ble_eq_true rfl) (fun p e s m args below meth c Q ls hQ hx hb hr hml hts hown hlk htab hK hZ hN hW hS hl => ?_)
  have hown : s.vm.findClass RL = some m.cls := hown
  have hW : k_H g ad t s.heap := hW
  have hl : lv_has ls 4 [(0, .ref (ad 0 0)), (1, .int z), (2, .ref (ad 24 0))] := hl
  refine lv_aload_n hx hb dL_pass_0 rfl (lv_at hl 2 rfl) ?_
  refine lv_iconst (v := nI 0) hx hb dL_pass_1 (by decide) ?_
  refine lv_aload_n hx hb dL_pass_2 rfl (lv_at hl 0 rfl) ?_
  refine lv_iload_n hx hb dL_pass_3 rfl (lv_at hl 1 rfl) ?_
  refine k_xc (E0 := "java/lang/IllegalArgumentException") (pre := []) (x := ⟨0, 9, 12, 15⟩) (suf := [⟨0, 9, 15, 17⟩]) (vx_runV (As := [.int z]) (rest := [.int (nI 0), .ref (ad 24 0)]) ⟨hx, hb, hml, hown, hts⟩ (c_X4_pass_b l hlt g ad t z hz) (cwV 1 hts gL_pass_X4_pass rfl rfl rfl (by decide +kernel) ⟨(Nat.le_of_ble_eq_true rfl), (Nat.le_of_ble_eq_true rfl)⟩) ⟨k_blind, k_recv hK hW (kc_0 g ad t) rfl, fun U hU hw => ⟨rfl, k_I.of hK hZ hN hS hW hU hw⟩⟩ rfl rfl hl.1 rfl (lv_room (Nat.le_of_ble_eq_true rfl)) dL_pass_4 ⟨(Nat.le_of_ble_eq_true rfl), (Nat.le_of_ble_eq_true rfl)⟩) hS hK hown (htab.trans rfl) (fun _ h9 => absurd h9 List.not_mem_nil) rfl (by decide) (hts (.classLink RL 15 "java/lang/IllegalArgumentException") (by decide +kernel)) (by decide +kernel) (fun q9 H locs hW hS => ?_)
  refine lv_astore_n (lv' := [(3, .ref q9), (0, .ref (ad 0 0)), (1, .int z), (2, .ref (ad 24 0))]) hx hb dL_pass_12 rfl hl (by decide) rfl (fun ls hl => ?_)
  refine lv_iconst (v := nI 1) hx hb dL_pass_13 (by decide) ?_
  exact k_riX hQ hx hb hr hlk hS hW ⟨rfl, rfl, rfl⟩ (Nat.le_of_ble_eq_true rfl) (Nat.le_of_ble_eq_true rfl) dL_pass_14
set_option maxRecDepth 100000 in
set_option maxHeartbeats 4000000 in
theorem cw_pass_is (l : Launch) (hlt : l.stackTraces = false) (g : k_g) (ad : k_AD) (t : k_T) (w : Nat) (hd : x_d t ≤ 360) (h1 : 1 ≤ w) (h2 : w ≤ 30) (h3 : 360 < x_d t + w) : vx_Met l yL_pass wsL_pass rm_L_pass (va_Pc [.ref (ad 0 0), .int (nI w), .ref (ad 24 0)] (k_I g (k_ct g ad t) ad)) (va_Qi (S := k_T × k_AD) (fun r u => r = nI 2 ∧ u.1 = t ∧ u.2 = ad) (fun u U => k_H g u.2 u.1 U.heap) (k_A g)) (fun _ _ _ => False) 2 12 (k_A g) := by
  refine k_metH (cc := cL_pass) (maxL := 4) (ret := (some .int)) (by decide) rfl (Nat.le_of_ble_eq_true rfl) (fun p e s m args below meth c Q ls hQ hx hb hr hml hts hown hlk htab hK hZ hN hW hS hl => ?_)
  have hown : s.vm.findClass RL = some m.cls := hown
  have hW : k_H g ad t s.heap := hW
  have hl : lv_has ls 4 [(0, .ref (ad 0 0)), (1, .int (nI w)), (2, .ref (ad 24 0))] := hl
  refine lv_aload_n hx hb dL_pass_0 rfl (lv_at hl 2 rfl) ?_
  refine lv_iconst (v := nI 0) hx hb dL_pass_1 (by decide) ?_
  refine lv_aload_n hx hb dL_pass_2 rfl (lv_at hl 0 rfl) ?_
  refine lv_iload_n hx hb dL_pass_3 rfl (lv_at hl 1 rfl) ?_
  refine k_xc (E0 := "java/lang/IllegalStateException") (pre := [⟨0, 9, 12, 15⟩]) (x := ⟨0, 9, 15, 17⟩) (suf := []) (vx_runV (As := [.int (nI w)]) (rest := [.int (nI 0), .ref (ad 24 0)]) ⟨hx, hb, hml, hown, hts⟩ (c_X4_pass_is l hlt g ad t w hd h1 h2 h3) (cwV 1 hts gL_pass_X4_pass rfl rfl rfl (by decide +kernel) ⟨(Nat.le_of_ble_eq_true rfl), (Nat.le_of_ble_eq_true rfl)⟩) ⟨k_blind, k_recv hK hW (kc_0 g ad t) rfl, fun U hU hw => ⟨rfl, k_I.of hK hZ hN hS hW hU hw⟩⟩ rfl rfl hl.1 rfl (lv_room (Nat.le_of_ble_eq_true rfl)) dL_pass_4 ⟨(Nat.le_of_ble_eq_true rfl), (Nat.le_of_ble_eq_true rfl)⟩) hS hK hown (htab.trans rfl) (List.forall_mem_cons.mpr ⟨⟨by decide, "java/lang/IllegalArgumentException", hts (.classLink RL 15 "java/lang/IllegalArgumentException") (by decide +kernel), by decide +kernel⟩, (fun _ h9 => absurd h9 List.not_mem_nil)⟩) rfl (by decide) (hts (.classLink RL 17 "java/lang/IllegalStateException") (by decide +kernel)) (by decide +kernel) (fun q9 H locs hW hS => ?_)
  refine lv_astore_n (lv' := [(3, .ref q9), (0, .ref (ad 0 0)), (1, .int (nI w)), (2, .ref (ad 24 0))]) hx hb dL_pass_15 rfl hl (by decide) rfl (fun ls hl => ?_)
  refine lv_iconst (v := nI 2) hx hb dL_pass_16 (by decide) ?_
  exact k_riX hQ hx hb hr hlk hS hW ⟨rfl, rfl, rfl⟩ (Nat.le_of_ble_eq_true rfl) (Nat.le_of_ble_eq_true rfl) dL_pass_17
set_option maxRecDepth 100000 in
set_option maxHeartbeats 4000000 in
theorem cw_pass_ok (l : Launch) (hlt : l.stackTraces = false) (g : k_g) (ad : k_AD) (t : k_T) (w : Nat) (hd : x_d t ≤ 360) (h1 : 1 ≤ w) (h2 : w ≤ 30) (h3 : x_d t + w ≤ 360) : vx_Met l yL_pass wsL_pass rm_L_pass (va_Pc [.ref (ad 0 0), .int (nI w), .ref (ad 24 0)] (k_I g (k_ct g ad t) ad)) (va_Qi (S := k_T × k_AD) (fun r u => r = nI 0 ∧ u.1 = set_l_o (set_x_d t (x_d t + w)) (va_up (l_o t) 0 ((nI (x_d t + w)).toInt64)) ∧ u.2 = ad) (fun u U => k_H g u.2 u.1 U.heap) (k_A g)) (fun _ _ _ => False) 2 12 (k_A g) := by
  refine k_metH (cc := cL_pass) (maxL := 4) (ret := (some .int)) (by decide) rfl (Nat.le_of_ble_eq_true rfl) (fun p e s m args below meth c Q ls hQ hx hb hr hml hts hown hlk htab hK hZ hN hW hS hl => ?_)
  have hown : s.vm.findClass RL = some m.cls := hown
  have hW : k_H g ad t s.heap := hW
  have hl : lv_has ls 4 [(0, .ref (ad 0 0)), (1, .int (nI w)), (2, .ref (ad 24 0))] := hl
  refine lv_aload_n hx hb dL_pass_0 rfl (lv_at hl 2 rfl) ?_
  refine lv_iconst (v := nI 0) hx hb dL_pass_1 (by decide) ?_
  refine lv_aload_n hx hb dL_pass_2 rfl (lv_at hl 0 rfl) ?_
  refine lv_iload_n hx hb dL_pass_3 rfl (lv_at hl 1 rfl) ?_
  refine k_ci (va_runV (As := [.int (nI w)]) (rest := [.int (nI 0), .ref (ad 24 0)]) ⟨hx, hb, hml, hown, hts⟩ (c_X4_pass_ok l hlt g ad t w hd h1 h2 h3) (cwV 1 hts gL_pass_X4_pass rfl rfl rfl (by decide +kernel) ⟨(Nat.le_of_ble_eq_true rfl), (Nat.le_of_ble_eq_true rfl)⟩) ⟨k_blind, k_recv hK hW (kc_0 g ad t) rfl, fun U hU hw => ⟨rfl, k_I.of hK hZ hN hS hW hU hw⟩⟩ rfl rfl hl.1 rfl (lv_room (Nat.le_of_ble_eq_true rfl)) dL_pass_4 ⟨(Nat.le_of_ble_eq_true rfl), (Nat.le_of_ble_eq_true rfl)⟩) hS (fun r u H locs hpo hW hS => ?_)
  obtain ⟨hr9, hu9⟩ := hpo; replace hu9 := hu9.symm; subst hu9; replace hr9 := hr9.symm; subst hr9
  have hW : k_H g ad (set_x_d t (x_d t + w)) H := hW
  refine lv_i2l hx hb (v := (nI (x_d t + w)).toInt64) dL_pass_7 rfl ?_
  refine k_last hx hb hK hW hS (kc_24 g ad (set_x_d t (x_d t + w))) 0 rfl (by omega) (by decide) dL_pass_8 (fun H locs hW hS => ?_)
  have hW : k_H g ad (set_l_o (set_x_d t (x_d t + w)) (va_up (l_o t) 0 ((nI (x_d t + w)).toInt64))) H := kt_l_o (t := set_x_d t (x_d t + w)) 0 ((nI (x_d t + w)).toInt64) hW
  refine lv_goto (tgt := 18) hx hb dL_pass_9 (by decide) ?_
  refine lv_iconst (v := nI 0) hx hb dL_pass_18 (by decide) ?_
  exact k_riX hQ hx hb hr hlk hS hW ⟨rfl, rfl, rfl⟩ (Nat.le_of_ble_eq_true rfl) (Nat.le_of_ble_eq_true rfl) dL_pass_19
abbrev rm_L_full : Room := { frames := 7, cells := 3, slots := 27, locals := 111 }
set_option maxRecDepth 100000 in
set_option maxHeartbeats 4000000 in
theorem cw_full_is (l : Launch) (hlt : l.stackTraces = false) (g : k_g) (ad : k_AD) (t : k_T) (hm : s_md t = 60) : vx_Met l yL_full wsL_full rm_L_full (va_Pc [.ref (ad 0 0), .ref (ad 24 0)] (k_I g (k_ct g ad t) ad)) (va_Qi (S := k_T × k_AD) (fun r u => r = nI 1 ∧ u.1 = t ∧ u.2 = ad) (fun u U => k_H g u.2 u.1 U.heap) (k_A g)) (fun _ _ _ => False) 3 27 (k_A g) := by
  refine k_metH (cc := cL_full) (maxL := 3) (ret := (some .int)) (by decide) rfl (Nat.le_of_ble_eq_true rfl) (fun p e s m args below meth c Q ls hQ hx hb hr hml hts hown hlk htab hK hZ hN hW hS hl => ?_)
  have hown : s.vm.findClass RL = some m.cls := hown
  have hW : k_H g ad t s.heap := hW
  have hl : lv_has ls 3 [(0, .ref (ad 0 0)), (1, .ref (ad 24 0))] := hl
  refine lv_aload_n hx hb dL_full_0 rfl (lv_at hl 1 rfl) ?_
  refine lv_iconst (v := nI 0) hx hb dL_full_1 (by decide) ?_
  refine lv_aload_n hx hb dL_full_2 rfl (lv_at hl 0 rfl) ?_
  refine k_xc (E0 := "java/lang/IllegalStateException") (pre := []) (x := ⟨0, 8, 11, 17⟩) (suf := []) (vx_runV (As := []) (rest := [.int (nI 0), .ref (ad 24 0)]) ⟨hx, hb, hml, hown, hts⟩ (c_X4_full_is l hlt g ad t hm) (cwV 0 hts gL_full_X4_full rfl rfl rfl (by decide +kernel) ⟨(Nat.le_of_ble_eq_true rfl), (Nat.le_of_ble_eq_true rfl)⟩) ⟨k_blind, k_recv hK hW (kc_0 g ad t) rfl, fun U hU hw => ⟨rfl, k_I.of hK hZ hN hS hW hU hw⟩⟩ rfl rfl hl.1 rfl (lv_room (Nat.le_of_ble_eq_true rfl)) dL_full_3 ⟨(Nat.le_of_ble_eq_true rfl), (Nat.le_of_ble_eq_true rfl)⟩) hS hK hown (htab.trans rfl) (fun _ h9 => absurd h9 List.not_mem_nil) rfl (by decide) (hts (.classLink RL 17 "java/lang/IllegalStateException") (by decide +kernel)) (by decide +kernel) (fun q9 H locs hW hS => ?_)
  refine lv_astore_n (lv' := [(2, .ref q9), (0, .ref (ad 0 0)), (1, .ref (ad 24 0))]) hx hb dL_full_11 rfl hl (by decide) rfl (fun ls hl => ?_)
  refine lv_iconst (v := nI 1) hx hb dL_full_12 (by decide) ?_
  exact k_riX hQ hx hb hr hlk hS hW ⟨rfl, rfl, rfl⟩ (Nat.le_of_ble_eq_true rfl) (Nat.le_of_ble_eq_true rfl) dL_full_13
set_option maxRecDepth 100000 in
set_option maxHeartbeats 4000000 in
theorem cw_full_ok (l : Launch) (hlt : l.stackTraces = false) (g : k_g) (ad : k_AD) (t : k_T) (hm : s_md t < 60) (hmo : o_n t = s_md t) (hfc : ∀ j, j < 10 → f_c t j ≠ -1) (hwf : ∀ j, s_th t j = true → j < o_n t) (hbs : ∀ k b, k < o_n t → o_b t k = some b → b < o_n t ∧ b < k) : vx_Met l yL_full wsL_full rm_L_full (va_Pc [.ref (ad 0 0), .ref (ad 24 0)] (k_I g (k_ct g ad t) ad)) (va_Qi (S := k_T × k_AD) (fun r u => r = nI 0 ∧ u.1 = set_l_o (set_s_md (set_s_th (set_o_k (set_o_kc (set_o_n (set_o_hd (set_o_nd (set_o_pm (set_o_pv (set_o_dm (set_o_ca (set_o_b (set_o_on t (va_up (o_on t) (s_md t) (x_d t))) (va_up (o_b t) (s_md t) none)) (va_up (o_ca t) (s_md t) (f_n t))) (va_up (o_dm t) (s_md t) false)) (va_up (o_pv t) (s_md t) false)) (va_up (o_pm t) (s_md t) false)) (va_up (o_nd t) (s_md t) false)) (va_up (o_hd t) (s_md t) false)) (s_md t + 1)) (va_up (o_kc t) (s_md t) (k_cnt (fun j => if j < 10 then (f_c t) j else k_K0 j)))) (va_up (o_k t) (s_md t) (fun j => if j < 10 then (f_c t) j else k_K0 j))) (va_up (s_th t) (s_md t) true)) (s_md t + 1)) (va_up (l_o t) 0 ((nI (s_md t)).toInt64)) ∧ ∀ a b, ¬ (a = 25 ∧ b = s_md t) → ¬ (a = 26 ∧ b = s_md t) → u.2 a b = ad a b) (fun u U => k_H g u.2 u.1 U.heap) (k_A g)) (fun _ _ _ => False) 3 27 (k_A g) := by
  refine k_metH (cc := cL_full) (maxL := 3) (ret := (some .int)) (by decide) rfl (Nat.le_of_ble_eq_true rfl) (fun p e s m args below meth c Q ls hQ hx hb hr hml hts hown hlk htab hK hZ hN hW hS hl => ?_)
  have hown : s.vm.findClass RL = some m.cls := hown
  have hW : k_H g ad t s.heap := hW
  have hl : lv_has ls 3 [(0, .ref (ad 0 0)), (1, .ref (ad 24 0))] := hl
  refine lv_aload_n hx hb dL_full_0 rfl (lv_at hl 1 rfl) ?_
  refine lv_iconst (v := nI 0) hx hb dL_full_1 (by decide) ?_
  refine lv_aload_n hx hb dL_full_2 rfl (lv_at hl 0 rfl) ?_
  refine k_ciA (va_runV (As := []) (rest := [.int (nI 0), .ref (ad 24 0)]) ⟨hx, hb, hml, hown, hts⟩ (c_X4_full_ok l hlt g ad t hm hmo hfc hwf hbs) (cwV 0 hts gL_full_X4_full rfl rfl rfl (by decide +kernel) ⟨(Nat.le_of_ble_eq_true rfl), (Nat.le_of_ble_eq_true rfl)⟩) ⟨k_blind, k_recv hK hW (kc_0 g ad t) rfl, fun U hU hw => ⟨rfl, k_I.of hK hZ hN hS hW hU hw⟩⟩ rfl rfl hl.1 rfl (lv_room (Nat.le_of_ble_eq_true rfl)) dL_full_3 ⟨(Nat.le_of_ble_eq_true rfl), (Nat.le_of_ble_eq_true rfl)⟩) hS (fun r u H locs hpo hW hS => ?_)
  obtain ⟨u1, ad⟩ := u
  obtain ⟨hr9, hu9, hadp⟩ := hpo
  replace hu9 := hu9.symm
  subst hr9
  have hW : k_H g ad (set_s_md (set_s_th (set_o_k (set_o_kc (set_o_n (set_o_hd (set_o_nd (set_o_pm (set_o_pv (set_o_dm (set_o_ca (set_o_b (set_o_on t (va_up (o_on t) (s_md t) (x_d t))) (va_up (o_b t) (s_md t) none)) (va_up (o_ca t) (s_md t) (f_n t))) (va_up (o_dm t) (s_md t) false)) (va_up (o_pv t) (s_md t) false)) (va_up (o_pm t) (s_md t) false)) (va_up (o_nd t) (s_md t) false)) (va_up (o_hd t) (s_md t) false)) (s_md t + 1)) (va_up (o_kc t) (s_md t) (k_cnt (fun j => if j < 10 then (f_c t) j else k_K0 j)))) (va_up (o_k t) (s_md t) (fun j => if j < 10 then (f_c t) j else k_K0 j))) (va_up (s_th t) (s_md t) true)) (s_md t + 1)) H := by rw [show (set_s_md (set_s_th (set_o_k (set_o_kc (set_o_n (set_o_hd (set_o_nd (set_o_pm (set_o_pv (set_o_dm (set_o_ca (set_o_b (set_o_on t (va_up (o_on t) (s_md t) (x_d t))) (va_up (o_b t) (s_md t) none)) (va_up (o_ca t) (s_md t) (f_n t))) (va_up (o_dm t) (s_md t) false)) (va_up (o_pv t) (s_md t) false)) (va_up (o_pm t) (s_md t) false)) (va_up (o_nd t) (s_md t) false)) (va_up (o_hd t) (s_md t) false)) (s_md t + 1)) (va_up (o_kc t) (s_md t) (k_cnt (fun j => if j < 10 then (f_c t) j else k_K0 j)))) (va_up (o_k t) (s_md t) (fun j => if j < 10 then (f_c t) j else k_K0 j))) (va_up (s_th t) (s_md t) true)) (s_md t + 1)) = u1 from hu9]; exact hW
  have e24 := hadp 24 0 (fun q9 => absurd q9.1 (by decide)) (fun q9 => absurd q9.1 (by decide))
  rw [← e24]
  refine lv_i2l hx hb (v := (nI (s_md t)).toInt64) dL_full_6 rfl ?_
  refine k_last hx hb hK hW hS (kc_24 g ad (set_s_md (set_s_th (set_o_k (set_o_kc (set_o_n (set_o_hd (set_o_nd (set_o_pm (set_o_pv (set_o_dm (set_o_ca (set_o_b (set_o_on t (va_up (o_on t) (s_md t) (x_d t))) (va_up (o_b t) (s_md t) none)) (va_up (o_ca t) (s_md t) (f_n t))) (va_up (o_dm t) (s_md t) false)) (va_up (o_pv t) (s_md t) false)) (va_up (o_pm t) (s_md t) false)) (va_up (o_nd t) (s_md t) false)) (va_up (o_hd t) (s_md t) false)) (s_md t + 1)) (va_up (o_kc t) (s_md t) (k_cnt (fun j => if j < 10 then (f_c t) j else k_K0 j)))) (va_up (o_k t) (s_md t) (fun j => if j < 10 then (f_c t) j else k_K0 j))) (va_up (s_th t) (s_md t) true)) (s_md t + 1))) 0 rfl (by omega) (by decide) dL_full_7 (fun H locs hW hS => ?_)
  have hW : k_H g ad (set_l_o (set_s_md (set_s_th (set_o_k (set_o_kc (set_o_n (set_o_hd (set_o_nd (set_o_pm (set_o_pv (set_o_dm (set_o_ca (set_o_b (set_o_on t (va_up (o_on t) (s_md t) (x_d t))) (va_up (o_b t) (s_md t) none)) (va_up (o_ca t) (s_md t) (f_n t))) (va_up (o_dm t) (s_md t) false)) (va_up (o_pv t) (s_md t) false)) (va_up (o_pm t) (s_md t) false)) (va_up (o_nd t) (s_md t) false)) (va_up (o_hd t) (s_md t) false)) (s_md t + 1)) (va_up (o_kc t) (s_md t) (k_cnt (fun j => if j < 10 then (f_c t) j else k_K0 j)))) (va_up (o_k t) (s_md t) (fun j => if j < 10 then (f_c t) j else k_K0 j))) (va_up (s_th t) (s_md t) true)) (s_md t + 1)) (va_up (l_o t) 0 ((nI (s_md t)).toInt64))) H := kt_l_o (t := set_s_md (set_s_th (set_o_k (set_o_kc (set_o_n (set_o_hd (set_o_nd (set_o_pm (set_o_pv (set_o_dm (set_o_ca (set_o_b (set_o_on t (va_up (o_on t) (s_md t) (x_d t))) (va_up (o_b t) (s_md t) none)) (va_up (o_ca t) (s_md t) (f_n t))) (va_up (o_dm t) (s_md t) false)) (va_up (o_pv t) (s_md t) false)) (va_up (o_pm t) (s_md t) false)) (va_up (o_nd t) (s_md t) false)) (va_up (o_hd t) (s_md t) false)) (s_md t + 1)) (va_up (o_kc t) (s_md t) (k_cnt (fun j => if j < 10 then (f_c t) j else k_K0 j)))) (va_up (o_k t) (s_md t) (fun j => if j < 10 then (f_c t) j else k_K0 j))) (va_up (s_th t) (s_md t) true)) (s_md t + 1)) 0 ((nI (s_md t)).toInt64) hW
  refine lv_goto (tgt := 14) hx hb dL_full_8 (by decide) ?_
  refine lv_iconst (v := nI 0) hx hb dL_full_14 (by decide) ?_
  exact k_riX hQ hx hb hr hlk hS hW ⟨rfl, rfl, hadp⟩ (Nat.le_of_ble_eq_true rfl) (Nat.le_of_ble_eq_true rfl) dL_full_15
abbrev rm_L_increment : Room := { frames := 7, cells := 3, slots := 27, locals := 112 }
set_option maxRecDepth 100000 in
set_option maxHeartbeats 4000000 in
theorem cw_increment_is (l : Launch) (hlt : l.stackTraces = false) (g : k_g) (ad : k_AD) (t : k_T) (hm : s_md t ≤ 60) (hbs : ∀ k b, k < o_n t → o_b t k = some b → b < o_n t ∧ b < k) (hz : s_md t = 60 ∨ k_la (s_th t) 60 = none) : vx_Met l yL_increment wsL_increment rm_L_increment (va_Pc [.ref (ad 0 0), .ref (ad 24 0)] (k_I g (k_ct g ad t) ad)) (va_Qi (S := k_T × k_AD) (fun r u => r = nI 1 ∧ u.1 = t ∧ u.2 = ad) (fun u U => k_H g u.2 u.1 U.heap) (k_A g)) (fun _ _ _ => False) 3 27 (k_A g) := by
  refine k_metH (cc := cL_increment) (maxL := 3) (ret := (some .int)) (by decide) rfl (Nat.le_of_ble_eq_true rfl) (fun p e s m args below meth c Q ls hQ hx hb hr hml hts hown hlk htab hK hZ hN hW hS hl => ?_)
  have hown : s.vm.findClass RL = some m.cls := hown
  have hW : k_H g ad t s.heap := hW
  have hl : lv_has ls 3 [(0, .ref (ad 0 0)), (1, .ref (ad 24 0))] := hl
  refine lv_aload_n hx hb dL_increment_0 rfl (lv_at hl 1 rfl) ?_
  refine lv_iconst (v := nI 0) hx hb dL_increment_1 (by decide) ?_
  refine lv_aload_n hx hb dL_increment_2 rfl (lv_at hl 0 rfl) ?_
  refine k_xc (E0 := "java/lang/IllegalStateException") (pre := []) (x := ⟨0, 8, 11, 17⟩) (suf := []) (vx_runV (As := []) (rest := [.int (nI 0), .ref (ad 24 0)]) ⟨hx, hb, hml, hown, hts⟩ (c_X4_increment_is l hlt g ad t hm hbs hz) (cwV 0 hts gL_increment_X4_increment rfl rfl rfl (by decide +kernel) ⟨(Nat.le_of_ble_eq_true rfl), (Nat.le_of_ble_eq_true rfl)⟩) ⟨k_blind, k_recv hK hW (kc_0 g ad t) rfl, fun U hU hw => ⟨rfl, k_I.of hK hZ hN hS hW hU hw⟩⟩ rfl rfl hl.1 rfl (lv_room (Nat.le_of_ble_eq_true rfl)) dL_increment_3 ⟨(Nat.le_of_ble_eq_true rfl), (Nat.le_of_ble_eq_true rfl)⟩) hS hK hown (htab.trans rfl) (fun _ h9 => absurd h9 List.not_mem_nil) rfl (by decide) (hts (.classLink RL 17 "java/lang/IllegalStateException") (by decide +kernel)) (by decide +kernel) (fun q9 H locs hW hS => ?_)
  refine lv_astore_n (lv' := [(2, .ref q9), (0, .ref (ad 0 0)), (1, .ref (ad 24 0))]) hx hb dL_increment_11 rfl hl (by decide) rfl (fun ls hl => ?_)
  refine lv_iconst (v := nI 1) hx hb dL_increment_12 (by decide) ?_
  exact k_riX hQ hx hb hr hlk hS hW ⟨rfl, rfl, rfl⟩ (Nat.le_of_ble_eq_true rfl) (Nat.le_of_ble_eq_true rfl) dL_increment_13
set_option maxRecDepth 100000 in
set_option maxHeartbeats 4000000 in
theorem cw_increment_ok (l : Launch) (hlt : l.stackTraces = false) (g : k_g) (ad : k_AD) (t : k_T) (b0 : Nat) (hm : s_md t < 60) (hmo : o_n t = s_md t) (hfc : ∀ j, j < 10 → f_c t j ≠ -1) (hwf : ∀ j, s_th t j = true → j < o_n t) (hbs : ∀ k b, k < o_n t → o_b t k = some b → b < o_n t ∧ b < k) (hla : k_la (s_th t) 60 = some b0) (hb0 : b0 < s_md t) (hca : o_ca t b0 ≤ f_n t) (hn : f_n t ≤ 300) (hlf : ∀ i, i < f_n t → f_lf t i < 10) : vx_Met l yL_increment wsL_increment rm_L_increment (va_Pc [.ref (ad 0 0), .ref (ad 24 0)] (k_I g (k_ct g ad t) ad)) (va_Qi (S := k_T × k_AD) (fun r u => r = nI 0 ∧ u.1 = set_l_o (set_s_md (set_s_th (set_o_k (set_o_kc (set_o_n (set_o_hd (set_o_nd (set_o_pm (set_o_pv (set_o_dm (set_o_ca (set_o_b (set_o_on t (va_up (o_on t) (s_md t) (x_d t))) (va_up (o_b t) (s_md t) (some b0))) (va_up (o_ca t) (s_md t) (f_n t))) (va_up (o_dm t) (s_md t) false)) (va_up (o_pv t) (s_md t) false)) (va_up (o_pm t) (s_md t) false)) (va_up (o_nd t) (s_md t) false)) (va_up (o_hd t) (s_md t) false)) (s_md t + 1)) (va_up (o_kc t) (s_md t) (k_cnt (fun j => if k_chd (f_lf t) (o_ca t b0) (f_n t) j = true then (f_c t) j else k_K0 j)))) (va_up (o_k t) (s_md t) (fun j => if k_chd (f_lf t) (o_ca t b0) (f_n t) j = true then (f_c t) j else k_K0 j))) (va_up (s_th t) (s_md t) true)) (s_md t + 1)) (va_up (l_o t) 0 ((nI (s_md t)).toInt64)) ∧ ∀ a b, ¬ (a = 25 ∧ b = s_md t) → ¬ (a = 26 ∧ b = s_md t) → u.2 a b = ad a b) (fun u U => k_H g u.2 u.1 U.heap) (k_A g)) (fun _ _ _ => False) 3 27 (k_A g) := by
  refine k_metH (cc := cL_increment) (maxL := 3) (ret := (some .int)) (by decide) rfl (Nat.le_of_ble_eq_true rfl) (fun p e s m args below meth c Q ls hQ hx hb hr hml hts hown hlk htab hK hZ hN hW hS hl => ?_)
  have hown : s.vm.findClass RL = some m.cls := hown
  have hW : k_H g ad t s.heap := hW
  have hl : lv_has ls 3 [(0, .ref (ad 0 0)), (1, .ref (ad 24 0))] := hl
  refine lv_aload_n hx hb dL_increment_0 rfl (lv_at hl 1 rfl) ?_
  refine lv_iconst (v := nI 0) hx hb dL_increment_1 (by decide) ?_
  refine lv_aload_n hx hb dL_increment_2 rfl (lv_at hl 0 rfl) ?_
  refine k_ciA (va_runV (As := []) (rest := [.int (nI 0), .ref (ad 24 0)]) ⟨hx, hb, hml, hown, hts⟩ (c_X4_increment_ok l hlt g ad t b0 hm hmo hfc hwf hbs hla hb0 hca hn hlf) (cwV 0 hts gL_increment_X4_increment rfl rfl rfl (by decide +kernel) ⟨(Nat.le_of_ble_eq_true rfl), (Nat.le_of_ble_eq_true rfl)⟩) ⟨k_blind, k_recv hK hW (kc_0 g ad t) rfl, fun U hU hw => ⟨rfl, k_I.of hK hZ hN hS hW hU hw⟩⟩ rfl rfl hl.1 rfl (lv_room (Nat.le_of_ble_eq_true rfl)) dL_increment_3 ⟨(Nat.le_of_ble_eq_true rfl), (Nat.le_of_ble_eq_true rfl)⟩) hS (fun r u H locs hpo hW hS => ?_)
  obtain ⟨u1, ad⟩ := u
  obtain ⟨hr9, hu9, hadp⟩ := hpo
  replace hu9 := hu9.symm
  subst hr9
  have hW : k_H g ad (set_s_md (set_s_th (set_o_k (set_o_kc (set_o_n (set_o_hd (set_o_nd (set_o_pm (set_o_pv (set_o_dm (set_o_ca (set_o_b (set_o_on t (va_up (o_on t) (s_md t) (x_d t))) (va_up (o_b t) (s_md t) (some b0))) (va_up (o_ca t) (s_md t) (f_n t))) (va_up (o_dm t) (s_md t) false)) (va_up (o_pv t) (s_md t) false)) (va_up (o_pm t) (s_md t) false)) (va_up (o_nd t) (s_md t) false)) (va_up (o_hd t) (s_md t) false)) (s_md t + 1)) (va_up (o_kc t) (s_md t) (k_cnt (fun j => if k_chd (f_lf t) (o_ca t b0) (f_n t) j = true then (f_c t) j else k_K0 j)))) (va_up (o_k t) (s_md t) (fun j => if k_chd (f_lf t) (o_ca t b0) (f_n t) j = true then (f_c t) j else k_K0 j))) (va_up (s_th t) (s_md t) true)) (s_md t + 1)) H := by rw [show (set_s_md (set_s_th (set_o_k (set_o_kc (set_o_n (set_o_hd (set_o_nd (set_o_pm (set_o_pv (set_o_dm (set_o_ca (set_o_b (set_o_on t (va_up (o_on t) (s_md t) (x_d t))) (va_up (o_b t) (s_md t) (some b0))) (va_up (o_ca t) (s_md t) (f_n t))) (va_up (o_dm t) (s_md t) false)) (va_up (o_pv t) (s_md t) false)) (va_up (o_pm t) (s_md t) false)) (va_up (o_nd t) (s_md t) false)) (va_up (o_hd t) (s_md t) false)) (s_md t + 1)) (va_up (o_kc t) (s_md t) (k_cnt (fun j => if k_chd (f_lf t) (o_ca t b0) (f_n t) j = true then (f_c t) j else k_K0 j)))) (va_up (o_k t) (s_md t) (fun j => if k_chd (f_lf t) (o_ca t b0) (f_n t) j = true then (f_c t) j else k_K0 j))) (va_up (s_th t) (s_md t) true)) (s_md t + 1)) = u1 from hu9]; exact hW
  have e24 := hadp 24 0 (fun q9 => absurd q9.1 (by decide)) (fun q9 => absurd q9.1 (by decide))
  rw [← e24]
  refine lv_i2l hx hb (v := (nI (s_md t)).toInt64) dL_increment_6 rfl ?_
  refine k_last hx hb hK hW hS (kc_24 g ad (set_s_md (set_s_th (set_o_k (set_o_kc (set_o_n (set_o_hd (set_o_nd (set_o_pm (set_o_pv (set_o_dm (set_o_ca (set_o_b (set_o_on t (va_up (o_on t) (s_md t) (x_d t))) (va_up (o_b t) (s_md t) (some b0))) (va_up (o_ca t) (s_md t) (f_n t))) (va_up (o_dm t) (s_md t) false)) (va_up (o_pv t) (s_md t) false)) (va_up (o_pm t) (s_md t) false)) (va_up (o_nd t) (s_md t) false)) (va_up (o_hd t) (s_md t) false)) (s_md t + 1)) (va_up (o_kc t) (s_md t) (k_cnt (fun j => if k_chd (f_lf t) (o_ca t b0) (f_n t) j = true then (f_c t) j else k_K0 j)))) (va_up (o_k t) (s_md t) (fun j => if k_chd (f_lf t) (o_ca t b0) (f_n t) j = true then (f_c t) j else k_K0 j))) (va_up (s_th t) (s_md t) true)) (s_md t + 1))) 0 rfl (by omega) (by decide) dL_increment_7 (fun H locs hW hS => ?_)
  have hW : k_H g ad (set_l_o (set_s_md (set_s_th (set_o_k (set_o_kc (set_o_n (set_o_hd (set_o_nd (set_o_pm (set_o_pv (set_o_dm (set_o_ca (set_o_b (set_o_on t (va_up (o_on t) (s_md t) (x_d t))) (va_up (o_b t) (s_md t) (some b0))) (va_up (o_ca t) (s_md t) (f_n t))) (va_up (o_dm t) (s_md t) false)) (va_up (o_pv t) (s_md t) false)) (va_up (o_pm t) (s_md t) false)) (va_up (o_nd t) (s_md t) false)) (va_up (o_hd t) (s_md t) false)) (s_md t + 1)) (va_up (o_kc t) (s_md t) (k_cnt (fun j => if k_chd (f_lf t) (o_ca t b0) (f_n t) j = true then (f_c t) j else k_K0 j)))) (va_up (o_k t) (s_md t) (fun j => if k_chd (f_lf t) (o_ca t b0) (f_n t) j = true then (f_c t) j else k_K0 j))) (va_up (s_th t) (s_md t) true)) (s_md t + 1)) (va_up (l_o t) 0 ((nI (s_md t)).toInt64))) H := kt_l_o (t := set_s_md (set_s_th (set_o_k (set_o_kc (set_o_n (set_o_hd (set_o_nd (set_o_pm (set_o_pv (set_o_dm (set_o_ca (set_o_b (set_o_on t (va_up (o_on t) (s_md t) (x_d t))) (va_up (o_b t) (s_md t) (some b0))) (va_up (o_ca t) (s_md t) (f_n t))) (va_up (o_dm t) (s_md t) false)) (va_up (o_pv t) (s_md t) false)) (va_up (o_pm t) (s_md t) false)) (va_up (o_nd t) (s_md t) false)) (va_up (o_hd t) (s_md t) false)) (s_md t + 1)) (va_up (o_kc t) (s_md t) (k_cnt (fun j => if k_chd (f_lf t) (o_ca t b0) (f_n t) j = true then (f_c t) j else k_K0 j)))) (va_up (o_k t) (s_md t) (fun j => if k_chd (f_lf t) (o_ca t b0) (f_n t) j = true then (f_c t) j else k_K0 j))) (va_up (s_th t) (s_md t) true)) (s_md t + 1)) 0 ((nI (s_md t)).toInt64) hW
  refine lv_goto (tgt := 14) hx hb dL_increment_8 (by decide) ?_
  refine lv_iconst (v := nI 0) hx hb dL_increment_14 (by decide) ?_
  exact k_riX hQ hx hb hr hlk hS hW ⟨rfl, rfl, hadp⟩ (Nat.le_of_ble_eq_true rfl) (Nat.le_of_ble_eq_true rfl) dL_increment_15
abbrev rm_L_damage : Room := { frames := 8, cells := 1, slots := 6, locals := 134 }
set_option maxRecDepth 100000 in
set_option maxHeartbeats 4000000 in
theorem cw_damage_b (l : Launch) (hlt : l.stackTraces = false) (g : k_g) (ad : k_AD) (t : k_T) (z : Int32) (hz : z < 0 ∨ nI 60 ≤ z ∨ ∃ j, j < 60 ∧ z = nI j ∧ s_th t j = false) : vx_Met l yL_damage wsL_damage rm_L_damage (va_Pc [.ref (ad 0 0), .int z, .ref (ad 24 0)] (k_I g (k_ct g ad t) ad)) (va_Qi (S := k_T × k_AD) (fun r u => r = nI 1 ∧ u.1 = t ∧ u.2 = ad) (fun u U => k_H g u.2 u.1 U.heap) (k_A g)) (fun _ _ _ => False) 1 6 (k_A g) := by
  refine k_metH (cc := cL_damage) (maxL := 4) (ret := (some .int)) (by decide) rfl (Nat.le_of_ble_eq_true rfl) (fun p e s m args below meth c Q ls hQ hx hb hr hml hts hown hlk htab hK hZ hN hW hS hl => ?_)
  have hown : s.vm.findClass RL = some m.cls := hown
  have hW : k_H g ad t s.heap := hW
  have hl : lv_has ls 4 [(0, .ref (ad 0 0)), (1, .int z), (2, .ref (ad 24 0))] := hl
  refine lv_aload_n hx hb dL_damage_0 rfl (lv_at hl 2 rfl) ?_
  refine lv_iconst (v := nI 0) hx hb dL_damage_1 (by decide) ?_
  refine lv_aload_n hx hb dL_damage_2 rfl (lv_at hl 0 rfl) ?_
  refine lv_iload_n hx hb dL_damage_3 rfl (lv_at hl 1 rfl) ?_
  refine k_xc (E0 := "java/lang/IndexOutOfBoundsException") (pre := []) (x := ⟨0, 9, 12, 13⟩) (suf := []) (vx_runV (As := [.int z]) (rest := [.int (nI 0), .ref (ad 24 0)]) ⟨hx, hb, hml, hown, hts⟩ (c_X4_damage_b l hlt g ad t z hz) (cwV 1 hts gL_damage_X4_damage rfl rfl rfl (by decide +kernel) ⟨(Nat.le_of_ble_eq_true rfl), (Nat.le_of_ble_eq_true rfl)⟩) ⟨k_blind, k_recv hK hW (kc_0 g ad t) rfl, fun U hU hw => ⟨rfl, k_I.of hK hZ hN hS hW hU hw⟩⟩ rfl rfl hl.1 rfl (lv_room (Nat.le_of_ble_eq_true rfl)) dL_damage_4 ⟨(Nat.le_of_ble_eq_true rfl), (Nat.le_of_ble_eq_true rfl)⟩) hS hK hown (htab.trans rfl) (fun _ h9 => absurd h9 List.not_mem_nil) rfl (by decide) (hts (.classLink RL 13 "java/lang/IndexOutOfBoundsException") (by decide +kernel)) (by decide +kernel) (fun q9 H locs hW hS => ?_)
  refine lv_astore_n (lv' := [(3, .ref q9), (0, .ref (ad 0 0)), (1, .int z), (2, .ref (ad 24 0))]) hx hb dL_damage_12 rfl hl (by decide) rfl (fun ls hl => ?_)
  refine lv_iconst (v := nI 1) hx hb dL_damage_13 (by decide) ?_
  exact k_riX hQ hx hb hr hlk hS hW ⟨rfl, rfl, rfl⟩ (Nat.le_of_ble_eq_true rfl) (Nat.le_of_ble_eq_true rfl) dL_damage_14
set_option maxRecDepth 100000 in
set_option maxHeartbeats 4000000 in
theorem cw_damage_ok (l : Launch) (hlt : l.stackTraces = false) (g : k_g) (ad : k_AD) (t : k_T) (j : Nat) (hj : j < 60) (hs : s_th t j = true) (hwf : ∀ j, s_th t j = true → j < o_n t) (hbs : ∀ k b, k < o_n t → o_b t k = some b → b < o_n t ∧ b < k) (hth : ∀ j b, s_th t j = true → o_b t j = some b → s_th t b = true) (hn60 : o_n t ≤ 60) (hon : ∀ j, j < o_n t → o_on t j ≤ 360) (hr1 : s_r1 t ≤ 30) (hr2 : s_r2 t ≤ 30) (hr3 : s_r3 t ≤ 30) : vx_Met l yL_damage wsL_damage rm_L_damage (va_Pc [.ref (ad 0 0), .int (nI j), .ref (ad 24 0)] (k_I g (k_ct g ad t) ad)) (va_Qi (S := k_T × k_AD) (fun r u => r = nI 0 ∧ u.1 = set_l_o (set_o_nd (set_o_pm (set_o_pv (set_o_dm t (va_up (o_dm t) j true)) (va_up (o_pv t) j false)) (k_Pm (s_th t) (o_pm t) (o_on t) (s_r1 t) (s_r2 t) (s_r3 t))) (k_Nm (s_th t) (o_nd t) (k_Pm (s_th t) (o_pm t) (o_on t) (s_r1 t) (s_r2 t) (s_r3 t)) (o_b t))) (va_up (l_o t) 0 ((nI (k_cb (fun k => ((s_th t) k && (k_Pm (s_th t) (o_pm t) (o_on t) (s_r1 t) (s_r2 t) (s_r3 t)) k) && (k_cl (o_b t) k).any (va_up (o_dm t) j true)) 60)).toInt64)) ∧ u.2 = ad) (fun u U => k_H g u.2 u.1 U.heap) (k_A g)) (fun _ _ _ => False) 1 6 (k_A g) := by
  refine k_metH (cc := cL_damage) (maxL := 4) (ret := (some .int)) (by decide) rfl (Nat.le_of_ble_eq_true rfl) (fun p e s m args below meth c Q ls hQ hx hb hr hml hts hown hlk htab hK hZ hN hW hS hl => ?_)
  have hown : s.vm.findClass RL = some m.cls := hown
  have hW : k_H g ad t s.heap := hW
  have hl : lv_has ls 4 [(0, .ref (ad 0 0)), (1, .int (nI j)), (2, .ref (ad 24 0))] := hl
  refine lv_aload_n hx hb dL_damage_0 rfl (lv_at hl 2 rfl) ?_
  refine lv_iconst (v := nI 0) hx hb dL_damage_1 (by decide) ?_
  refine lv_aload_n hx hb dL_damage_2 rfl (lv_at hl 0 rfl) ?_
  refine lv_iload_n hx hb dL_damage_3 rfl (lv_at hl 1 rfl) ?_
  refine k_ci (va_runV (As := [.int (nI j)]) (rest := [.int (nI 0), .ref (ad 24 0)]) ⟨hx, hb, hml, hown, hts⟩ (c_X4_damage_ok l hlt g ad t j hj hs hwf hbs hth hn60 hon hr1 hr2 hr3) (cwV 1 hts gL_damage_X4_damage rfl rfl rfl (by decide +kernel) ⟨(Nat.le_of_ble_eq_true rfl), (Nat.le_of_ble_eq_true rfl)⟩) ⟨k_blind, k_recv hK hW (kc_0 g ad t) rfl, fun U hU hw => ⟨rfl, k_I.of hK hZ hN hS hW hU hw⟩⟩ rfl rfl hl.1 rfl (lv_room (Nat.le_of_ble_eq_true rfl)) dL_damage_4 ⟨(Nat.le_of_ble_eq_true rfl), (Nat.le_of_ble_eq_true rfl)⟩) hS (fun r u H locs hpo hW hS => ?_)
  obtain ⟨hr9, hu9⟩ := hpo; replace hu9 := hu9.symm; subst hu9; replace hr9 := hr9.symm; subst hr9
  have hW : k_H g ad (set_o_nd (set_o_pm (set_o_pv (set_o_dm t (va_up (o_dm t) j true)) (va_up (o_pv t) j false)) (k_Pm (s_th t) (o_pm t) (o_on t) (s_r1 t) (s_r2 t) (s_r3 t))) (k_Nm (s_th t) (o_nd t) (k_Pm (s_th t) (o_pm t) (o_on t) (s_r1 t) (s_r2 t) (s_r3 t)) (o_b t))) H := hW
  refine lv_i2l hx hb (v := (nI (k_cb (fun k => ((s_th t) k && (k_Pm (s_th t) (o_pm t) (o_on t) (s_r1 t) (s_r2 t) (s_r3 t)) k) && (k_cl (o_b t) k).any (va_up (o_dm t) j true)) 60)).toInt64) dL_damage_7 rfl ?_
  refine k_last hx hb hK hW hS (kc_24 g ad (set_o_nd (set_o_pm (set_o_pv (set_o_dm t (va_up (o_dm t) j true)) (va_up (o_pv t) j false)) (k_Pm (s_th t) (o_pm t) (o_on t) (s_r1 t) (s_r2 t) (s_r3 t))) (k_Nm (s_th t) (o_nd t) (k_Pm (s_th t) (o_pm t) (o_on t) (s_r1 t) (s_r2 t) (s_r3 t)) (o_b t)))) 0 rfl (by omega) (by decide) dL_damage_8 (fun H locs hW hS => ?_)
  have hW : k_H g ad (set_l_o (set_o_nd (set_o_pm (set_o_pv (set_o_dm t (va_up (o_dm t) j true)) (va_up (o_pv t) j false)) (k_Pm (s_th t) (o_pm t) (o_on t) (s_r1 t) (s_r2 t) (s_r3 t))) (k_Nm (s_th t) (o_nd t) (k_Pm (s_th t) (o_pm t) (o_on t) (s_r1 t) (s_r2 t) (s_r3 t)) (o_b t))) (va_up (l_o t) 0 ((nI (k_cb (fun k => ((s_th t) k && (k_Pm (s_th t) (o_pm t) (o_on t) (s_r1 t) (s_r2 t) (s_r3 t)) k) && (k_cl (o_b t) k).any (va_up (o_dm t) j true)) 60)).toInt64))) H := kt_l_o (t := set_o_nd (set_o_pm (set_o_pv (set_o_dm t (va_up (o_dm t) j true)) (va_up (o_pv t) j false)) (k_Pm (s_th t) (o_pm t) (o_on t) (s_r1 t) (s_r2 t) (s_r3 t))) (k_Nm (s_th t) (o_nd t) (k_Pm (s_th t) (o_pm t) (o_on t) (s_r1 t) (s_r2 t) (s_r3 t)) (o_b t))) 0 ((nI (k_cb (fun k => ((s_th t) k && (k_Pm (s_th t) (o_pm t) (o_on t) (s_r1 t) (s_r2 t) (s_r3 t)) k) && (k_cl (o_b t) k).any (va_up (o_dm t) j true)) 60)).toInt64) hW
  refine lv_goto (tgt := 15) hx hb dL_damage_9 (by decide) ?_
  refine lv_iconst (v := nI 0) hx hb dL_damage_15 (by decide) ?_
  exact k_riX hQ hx hb hr hlk hS hW ⟨rfl, rfl, rfl⟩ (Nat.le_of_ble_eq_true rfl) (Nat.le_of_ble_eq_true rfl) dL_damage_16
abbrev rm_L_drill : Room := { frames := 8, cells := 1, slots := 6, locals := 135 }
set_option maxRecDepth 100000 in
set_option maxHeartbeats 4000000 in
theorem cw_drill_b (l : Launch) (hlt : l.stackTraces = false) (g : k_g) (ad : k_AD) (t : k_T) (z : Int32) (hz : z < 0 ∨ nI 60 ≤ z ∨ ∃ j, j < 60 ∧ z = nI j ∧ s_th t j = false) : vx_Met l yL_drill wsL_drill rm_L_drill (va_Pc [.ref (ad 0 0), .int z, .ref (ad 24 0)] (k_I g (k_ct g ad t) ad)) (va_Qi (S := k_T × k_AD) (fun r u => r = nI 1 ∧ u.1 = t ∧ u.2 = ad) (fun u U => k_H g u.2 u.1 U.heap) (k_A g)) (fun _ _ _ => False) 1 6 (k_A g) := by
  refine k_metH (cc := cL_drill) (maxL := 4) (ret := (some .int)) (by decide) rfl (Nat.le_of_ble_eq_true rfl) (fun p e s m args below meth c Q ls hQ hx hb hr hml hts hown hlk htab hK hZ hN hW hS hl => ?_)
  have hown : s.vm.findClass RL = some m.cls := hown
  have hW : k_H g ad t s.heap := hW
  have hl : lv_has ls 4 [(0, .ref (ad 0 0)), (1, .int z), (2, .ref (ad 24 0))] := hl
  refine lv_aload_n hx hb dL_drill_0 rfl (lv_at hl 2 rfl) ?_
  refine lv_iconst (v := nI 0) hx hb dL_drill_1 (by decide) ?_
  refine lv_aload_n hx hb dL_drill_2 rfl (lv_at hl 0 rfl) ?_
  refine lv_iload_n hx hb dL_drill_3 rfl (lv_at hl 1 rfl) ?_
  refine k_xc (E0 := "java/lang/IndexOutOfBoundsException") (pre := []) (x := ⟨0, 9, 12, 13⟩) (suf := []) (vx_runV (As := [.int z]) (rest := [.int (nI 0), .ref (ad 24 0)]) ⟨hx, hb, hml, hown, hts⟩ (c_X4_drill_b l hlt g ad t z hz) (cwV 1 hts gL_drill_X4_drill rfl rfl rfl (by decide +kernel) ⟨(Nat.le_of_ble_eq_true rfl), (Nat.le_of_ble_eq_true rfl)⟩) ⟨k_blind, k_recv hK hW (kc_0 g ad t) rfl, fun U hU hw => ⟨rfl, k_I.of hK hZ hN hS hW hU hw⟩⟩ rfl rfl hl.1 rfl (lv_room (Nat.le_of_ble_eq_true rfl)) dL_drill_4 ⟨(Nat.le_of_ble_eq_true rfl), (Nat.le_of_ble_eq_true rfl)⟩) hS hK hown (htab.trans rfl) (fun _ h9 => absurd h9 List.not_mem_nil) rfl (by decide) (hts (.classLink RL 13 "java/lang/IndexOutOfBoundsException") (by decide +kernel)) (by decide +kernel) (fun q9 H locs hW hS => ?_)
  refine lv_astore_n (lv' := [(3, .ref q9), (0, .ref (ad 0 0)), (1, .int z), (2, .ref (ad 24 0))]) hx hb dL_drill_12 rfl hl (by decide) rfl (fun ls hl => ?_)
  refine lv_iconst (v := nI 1) hx hb dL_drill_13 (by decide) ?_
  exact k_riX hQ hx hb hr hlk hS hW ⟨rfl, rfl, rfl⟩ (Nat.le_of_ble_eq_true rfl) (Nat.le_of_ble_eq_true rfl) dL_drill_14
set_option maxRecDepth 100000 in
set_option maxHeartbeats 4000000 in
theorem cw_drill_ok (l : Launch) (hlt : l.stackTraces = false) (g : k_g) (ad : k_AD) (t : k_T) (j : Nat) (hj : j < 60) (hs : s_th t j = true) (hwf : ∀ j, s_th t j = true → j < o_n t) (hbs : ∀ k b, k < o_n t → o_b t k = some b → b < o_n t ∧ b < k) (ha : (k_cl (o_b t) j).any (o_dm t) = false) : vx_Met l yL_drill wsL_drill rm_L_drill (va_Pc [.ref (ad 0 0), .int (nI j), .ref (ad 24 0)] (k_I g (k_ct g ad t) ad)) (va_Qi (S := k_T × k_AD) (fun r u => r = nI 0 ∧ u.1 = set_l_o (set_o_pv t (fun j9 => if (k_cl (o_b t) j).contains j9 = true then true else (o_pv t) j9)) (va_up (l_o t) 0 ((nI ((k_cl (o_b t) j).length)).toInt64)) ∧ u.2 = ad) (fun u U => k_H g u.2 u.1 U.heap) (k_A g)) (fun _ _ _ => False) 1 6 (k_A g) := by
  refine k_metH (cc := cL_drill) (maxL := 4) (ret := (some .int)) (by decide) rfl (Nat.le_of_ble_eq_true rfl) (fun p e s m args below meth c Q ls hQ hx hb hr hml hts hown hlk htab hK hZ hN hW hS hl => ?_)
  have hown : s.vm.findClass RL = some m.cls := hown
  have hW : k_H g ad t s.heap := hW
  have hl : lv_has ls 4 [(0, .ref (ad 0 0)), (1, .int (nI j)), (2, .ref (ad 24 0))] := hl
  refine lv_aload_n hx hb dL_drill_0 rfl (lv_at hl 2 rfl) ?_
  refine lv_iconst (v := nI 0) hx hb dL_drill_1 (by decide) ?_
  refine lv_aload_n hx hb dL_drill_2 rfl (lv_at hl 0 rfl) ?_
  refine lv_iload_n hx hb dL_drill_3 rfl (lv_at hl 1 rfl) ?_
  refine k_ci (va_runV (As := [.int (nI j)]) (rest := [.int (nI 0), .ref (ad 24 0)]) ⟨hx, hb, hml, hown, hts⟩ (c_X4_drill_ok l hlt g ad t j hj hs hwf hbs ha) (cwV 1 hts gL_drill_X4_drill rfl rfl rfl (by decide +kernel) ⟨(Nat.le_of_ble_eq_true rfl), (Nat.le_of_ble_eq_true rfl)⟩) ⟨k_blind, k_recv hK hW (kc_0 g ad t) rfl, fun U hU hw => ⟨rfl, k_I.of hK hZ hN hS hW hU hw⟩⟩ rfl rfl hl.1 rfl (lv_room (Nat.le_of_ble_eq_true rfl)) dL_drill_4 ⟨(Nat.le_of_ble_eq_true rfl), (Nat.le_of_ble_eq_true rfl)⟩) hS (fun r u H locs hpo hW hS => ?_)
  obtain ⟨hr9, hu9⟩ := hpo; replace hu9 := hu9.symm; subst hu9; replace hr9 := hr9.symm; subst hr9
  have hW : k_H g ad (set_o_pv t (fun j9 => if (k_cl (o_b t) j).contains j9 = true then true else (o_pv t) j9)) H := hW
  refine lv_i2l hx hb (v := (nI ((k_cl (o_b t) j).length)).toInt64) dL_drill_7 rfl ?_
  refine k_last hx hb hK hW hS (kc_24 g ad (set_o_pv t (fun j9 => if (k_cl (o_b t) j).contains j9 = true then true else (o_pv t) j9))) 0 rfl (by omega) (by decide) dL_drill_8 (fun H locs hW hS => ?_)
  have hW : k_H g ad (set_l_o (set_o_pv t (fun j9 => if (k_cl (o_b t) j).contains j9 = true then true else (o_pv t) j9)) (va_up (l_o t) 0 ((nI ((k_cl (o_b t) j).length)).toInt64))) H := kt_l_o (t := set_o_pv t (fun j9 => if (k_cl (o_b t) j).contains j9 = true then true else (o_pv t) j9)) 0 ((nI ((k_cl (o_b t) j).length)).toInt64) hW
  refine lv_goto (tgt := 15) hx hb dL_drill_9 (by decide) ?_
  refine lv_iconst (v := nI 0) hx hb dL_drill_15 (by decide) ?_
  exact k_riX hQ hx hb hr hlk hS hW ⟨rfl, rfl, rfl⟩ (Nat.le_of_ble_eq_true rfl) (Nat.le_of_ble_eq_true rfl) dL_drill_16
set_option maxRecDepth 100000 in
set_option maxHeartbeats 4000000 in
theorem cw_drill_no (l : Launch) (hlt : l.stackTraces = false) (g : k_g) (ad : k_AD) (t : k_T) (j : Nat) (hj : j < 60) (hs : s_th t j = true) (hwf : ∀ j, s_th t j = true → j < o_n t) (hbs : ∀ k b, k < o_n t → o_b t k = some b → b < o_n t ∧ b < k) (ha : (k_cl (o_b t) j).any (o_dm t) = true) : vx_Met l yL_drill wsL_drill rm_L_drill (va_Pc [.ref (ad 0 0), .int (nI j), .ref (ad 24 0)] (k_I g (k_ct g ad t) ad)) (va_Qi (S := k_T × k_AD) (fun r u => r = nI 0 ∧ u.1 = set_l_o (set_o_pv t (fun j9 => if (k_cl (o_b t) j).contains j9 = true then false else (o_pv t) j9)) (va_up (l_o t) 0 (((-1)).toInt64)) ∧ u.2 = ad) (fun u U => k_H g u.2 u.1 U.heap) (k_A g)) (fun _ _ _ => False) 1 6 (k_A g) := by
  refine k_metH (cc := cL_drill) (maxL := 4) (ret := (some .int)) (by decide) rfl (Nat.le_of_ble_eq_true rfl) (fun p e s m args below meth c Q ls hQ hx hb hr hml hts hown hlk htab hK hZ hN hW hS hl => ?_)
  have hown : s.vm.findClass RL = some m.cls := hown
  have hW : k_H g ad t s.heap := hW
  have hl : lv_has ls 4 [(0, .ref (ad 0 0)), (1, .int (nI j)), (2, .ref (ad 24 0))] := hl
  refine lv_aload_n hx hb dL_drill_0 rfl (lv_at hl 2 rfl) ?_
  refine lv_iconst (v := nI 0) hx hb dL_drill_1 (by decide) ?_
  refine lv_aload_n hx hb dL_drill_2 rfl (lv_at hl 0 rfl) ?_
  refine lv_iload_n hx hb dL_drill_3 rfl (lv_at hl 1 rfl) ?_
  refine k_ci (va_runV (As := [.int (nI j)]) (rest := [.int (nI 0), .ref (ad 24 0)]) ⟨hx, hb, hml, hown, hts⟩ (c_X4_drill_no l hlt g ad t j hj hs hwf hbs ha) (cwV 1 hts gL_drill_X4_drill rfl rfl rfl (by decide +kernel) ⟨(Nat.le_of_ble_eq_true rfl), (Nat.le_of_ble_eq_true rfl)⟩) ⟨k_blind, k_recv hK hW (kc_0 g ad t) rfl, fun U hU hw => ⟨rfl, k_I.of hK hZ hN hS hW hU hw⟩⟩ rfl rfl hl.1 rfl (lv_room (Nat.le_of_ble_eq_true rfl)) dL_drill_4 ⟨(Nat.le_of_ble_eq_true rfl), (Nat.le_of_ble_eq_true rfl)⟩) hS (fun r u H locs hpo hW hS => ?_)
  obtain ⟨hr9, hu9⟩ := hpo; replace hu9 := hu9.symm; subst hu9; replace hr9 := hr9.symm; subst hr9
  have hW : k_H g ad (set_o_pv t (fun j9 => if (k_cl (o_b t) j).contains j9 = true then false else (o_pv t) j9)) H := hW
  refine lv_i2l hx hb (v := ((-1)).toInt64) dL_drill_7 rfl ?_
  refine k_last hx hb hK hW hS (kc_24 g ad (set_o_pv t (fun j9 => if (k_cl (o_b t) j).contains j9 = true then false else (o_pv t) j9))) 0 rfl (by omega) (by decide) dL_drill_8 (fun H locs hW hS => ?_)
  have hW : k_H g ad (set_l_o (set_o_pv t (fun j9 => if (k_cl (o_b t) j).contains j9 = true then false else (o_pv t) j9)) (va_up (l_o t) 0 (((-1)).toInt64))) H := kt_l_o (t := set_o_pv t (fun j9 => if (k_cl (o_b t) j).contains j9 = true then false else (o_pv t) j9)) 0 (((-1)).toInt64) hW
  refine lv_goto (tgt := 15) hx hb dL_drill_9 (by decide) ?_
  refine lv_iconst (v := nI 0) hx hb dL_drill_15 (by decide) ?_
  exact k_riX hQ hx hb hr hlk hS hW ⟨rfl, rfl, rfl⟩ (Nat.le_of_ble_eq_true rfl) (Nat.le_of_ble_eq_true rfl) dL_drill_16
abbrev rm_L_setRules : Room := { frames := 7, cells := 3, slots := 18, locals := 119 }
set_option maxRecDepth 100000 in
set_option maxHeartbeats 4000000 in
theorem cw_setRules_1b (l : Launch) (hlt : l.stackTraces = false) (g : k_g) (ad : k_AD) (t : k_T) (z : Int32) (y1 : Int32) (y2 : Int32) (hz : z < 0 ∨ nI 30 < z) : vx_Met l yL_setRules wsL_setRules rm_L_setRules (va_Pc [.ref (ad 0 0), .int z, .int y1, .int y2, .ref (ad 24 0)] (k_I g (k_ct g ad t) ad)) (va_Qi (S := k_T × k_AD) (fun r u => r = nI 1 ∧ u.1 = t ∧ u.2 = ad) (fun u U => k_H g u.2 u.1 U.heap) (k_A g)) (fun _ _ _ => False) 3 18 (k_A g) := by
  refine k_metH (cc := cL_setRules) (maxL := 6) (ret := (some .int)) (by decide) rfl (Nat.le_of_ble_eq_true rfl) (fun p e s m args below meth c Q ls hQ hx hb hr hml hts hown hlk htab hK hZ hN hW hS hl => ?_)
  have hown : s.vm.findClass RL = some m.cls := hown
  have hW : k_H g ad t s.heap := hW
  have hl : lv_has ls 6 [(0, .ref (ad 0 0)), (1, .int z), (2, .int y1), (3, .int y2), (4, .ref (ad 24 0))] := hl
  refine lv_aload hx hb dL_setRules_0 (lv_at hl 4 rfl) ?_
  refine lv_iconst (v := nI 0) hx hb dL_setRules_2 (by decide) ?_
  refine lv_aload_n hx hb dL_setRules_3 rfl (lv_at hl 0 rfl) ?_
  refine lv_iload_n hx hb dL_setRules_4 rfl (lv_at hl 1 rfl) ?_
  refine lv_iload_n hx hb dL_setRules_5 rfl (lv_at hl 2 rfl) ?_
  refine lv_iload_n hx hb dL_setRules_6 rfl (lv_at hl 3 rfl) ?_
  refine k_xc (E0 := "java/lang/IllegalArgumentException") (pre := []) (x := ⟨0, 12, 15, 15⟩) (suf := []) (vx_runV (As := [.int z, .int y1, .int y2]) (rest := [.int (nI 0), .ref (ad 24 0)]) ⟨hx, hb, hml, hown, hts⟩ (c_X4_setRules_1b l hlt g ad t z y1 y2 hz) (cwV 3 hts gL_setRules_X4_setRules rfl rfl rfl (by decide +kernel) ⟨(Nat.le_of_ble_eq_true rfl), (Nat.le_of_ble_eq_true rfl)⟩) ⟨k_blind, k_recv hK hW (kc_0 g ad t) rfl, fun U hU hw => ⟨rfl, k_I.of hK hZ hN hS hW hU hw⟩⟩ rfl rfl hl.1 rfl (lv_room (Nat.le_of_ble_eq_true rfl)) dL_setRules_7 ⟨(Nat.le_of_ble_eq_true rfl), (Nat.le_of_ble_eq_true rfl)⟩) hS hK hown (htab.trans rfl) (fun _ h9 => absurd h9 List.not_mem_nil) rfl (by decide) (hts (.classLink RL 15 "java/lang/IllegalArgumentException") (by decide +kernel)) (by decide +kernel) (fun q9 H locs hW hS => ?_)
  refine lv_astore (lv' := [(5, .ref q9), (0, .ref (ad 0 0)), (1, .int z), (2, .int y1), (3, .int y2), (4, .ref (ad 24 0))]) hx hb dL_setRules_15 hl (by decide) rfl (fun ls hl => ?_)
  refine lv_iconst (v := nI 1) hx hb dL_setRules_17 (by decide) ?_
  exact k_riX hQ hx hb hr hlk hS hW ⟨rfl, rfl, rfl⟩ (Nat.le_of_ble_eq_true rfl) (Nat.le_of_ble_eq_true rfl) dL_setRules_18
set_option maxRecDepth 100000 in
set_option maxHeartbeats 4000000 in
theorem cw_setRules_2b (l : Launch) (hlt : l.stackTraces = false) (g : k_g) (ad : k_AD) (t : k_T) (ra : Nat) (z : Int32) (y2 : Int32) (h1 : ra ≤ 30) (hz : z < 0 ∨ nI 20 < z) : vx_Met l yL_setRules wsL_setRules rm_L_setRules (va_Pc [.ref (ad 0 0), .int (nI ra), .int z, .int y2, .ref (ad 24 0)] (k_I g (k_ct g ad t) ad)) (va_Qi (S := k_T × k_AD) (fun r u => r = nI 1 ∧ u.1 = t ∧ u.2 = ad) (fun u U => k_H g u.2 u.1 U.heap) (k_A g)) (fun _ _ _ => False) 3 18 (k_A g) := by
  refine k_metH (cc := cL_setRules) (maxL := 6) (ret := (some .int)) (by decide) rfl (Nat.le_of_ble_eq_true rfl) (fun p e s m args below meth c Q ls hQ hx hb hr hml hts hown hlk htab hK hZ hN hW hS hl => ?_)
  have hown : s.vm.findClass RL = some m.cls := hown
  have hW : k_H g ad t s.heap := hW
  have hl : lv_has ls 6 [(0, .ref (ad 0 0)), (1, .int (nI ra)), (2, .int z), (3, .int y2), (4, .ref (ad 24 0))] := hl
  refine lv_aload hx hb dL_setRules_0 (lv_at hl 4 rfl) ?_
  refine lv_iconst (v := nI 0) hx hb dL_setRules_2 (by decide) ?_
  refine lv_aload_n hx hb dL_setRules_3 rfl (lv_at hl 0 rfl) ?_
  refine lv_iload_n hx hb dL_setRules_4 rfl (lv_at hl 1 rfl) ?_
  refine lv_iload_n hx hb dL_setRules_5 rfl (lv_at hl 2 rfl) ?_
  refine lv_iload_n hx hb dL_setRules_6 rfl (lv_at hl 3 rfl) ?_
  refine k_xc (E0 := "java/lang/IllegalArgumentException") (pre := []) (x := ⟨0, 12, 15, 15⟩) (suf := []) (vx_runV (As := [.int (nI ra), .int z, .int y2]) (rest := [.int (nI 0), .ref (ad 24 0)]) ⟨hx, hb, hml, hown, hts⟩ (c_X4_setRules_2b l hlt g ad t ra z y2 h1 hz) (cwV 3 hts gL_setRules_X4_setRules rfl rfl rfl (by decide +kernel) ⟨(Nat.le_of_ble_eq_true rfl), (Nat.le_of_ble_eq_true rfl)⟩) ⟨k_blind, k_recv hK hW (kc_0 g ad t) rfl, fun U hU hw => ⟨rfl, k_I.of hK hZ hN hS hW hU hw⟩⟩ rfl rfl hl.1 rfl (lv_room (Nat.le_of_ble_eq_true rfl)) dL_setRules_7 ⟨(Nat.le_of_ble_eq_true rfl), (Nat.le_of_ble_eq_true rfl)⟩) hS hK hown (htab.trans rfl) (fun _ h9 => absurd h9 List.not_mem_nil) rfl (by decide) (hts (.classLink RL 15 "java/lang/IllegalArgumentException") (by decide +kernel)) (by decide +kernel) (fun q9 H locs hW hS => ?_)
  refine lv_astore (lv' := [(5, .ref q9), (0, .ref (ad 0 0)), (1, .int (nI ra)), (2, .int z), (3, .int y2), (4, .ref (ad 24 0))]) hx hb dL_setRules_15 hl (by decide) rfl (fun ls hl => ?_)
  refine lv_iconst (v := nI 1) hx hb dL_setRules_17 (by decide) ?_
  exact k_riX hQ hx hb hr hlk hS hW ⟨rfl, rfl, rfl⟩ (Nat.le_of_ble_eq_true rfl) (Nat.le_of_ble_eq_true rfl) dL_setRules_18
set_option maxRecDepth 100000 in
set_option maxHeartbeats 4000000 in
theorem cw_setRules_3b (l : Launch) (hlt : l.stackTraces = false) (g : k_g) (ad : k_AD) (t : k_T) (ra : Nat) (rb : Nat) (z : Int32) (h1 : ra ≤ 30) (h2 : rb ≤ 20) (hz : z < 0 ∨ nI 12 < z) : vx_Met l yL_setRules wsL_setRules rm_L_setRules (va_Pc [.ref (ad 0 0), .int (nI ra), .int (nI rb), .int z, .ref (ad 24 0)] (k_I g (k_ct g ad t) ad)) (va_Qi (S := k_T × k_AD) (fun r u => r = nI 1 ∧ u.1 = t ∧ u.2 = ad) (fun u U => k_H g u.2 u.1 U.heap) (k_A g)) (fun _ _ _ => False) 3 18 (k_A g) := by
  refine k_metH (cc := cL_setRules) (maxL := 6) (ret := (some .int)) (by decide) rfl (Nat.le_of_ble_eq_true rfl) (fun p e s m args below meth c Q ls hQ hx hb hr hml hts hown hlk htab hK hZ hN hW hS hl => ?_)
  have hown : s.vm.findClass RL = some m.cls := hown
  have hW : k_H g ad t s.heap := hW
  have hl : lv_has ls 6 [(0, .ref (ad 0 0)), (1, .int (nI ra)), (2, .int (nI rb)), (3, .int z), (4, .ref (ad 24 0))] := hl
  refine lv_aload hx hb dL_setRules_0 (lv_at hl 4 rfl) ?_
  refine lv_iconst (v := nI 0) hx hb dL_setRules_2 (by decide) ?_
  refine lv_aload_n hx hb dL_setRules_3 rfl (lv_at hl 0 rfl) ?_
  refine lv_iload_n hx hb dL_setRules_4 rfl (lv_at hl 1 rfl) ?_
  refine lv_iload_n hx hb dL_setRules_5 rfl (lv_at hl 2 rfl) ?_
  refine lv_iload_n hx hb dL_setRules_6 rfl (lv_at hl 3 rfl) ?_
  refine k_xc (E0 := "java/lang/IllegalArgumentException") (pre := []) (x := ⟨0, 12, 15, 15⟩) (suf := []) (vx_runV (As := [.int (nI ra), .int (nI rb), .int z]) (rest := [.int (nI 0), .ref (ad 24 0)]) ⟨hx, hb, hml, hown, hts⟩ (c_X4_setRules_3b l hlt g ad t ra rb z h1 h2 hz) (cwV 3 hts gL_setRules_X4_setRules rfl rfl rfl (by decide +kernel) ⟨(Nat.le_of_ble_eq_true rfl), (Nat.le_of_ble_eq_true rfl)⟩) ⟨k_blind, k_recv hK hW (kc_0 g ad t) rfl, fun U hU hw => ⟨rfl, k_I.of hK hZ hN hS hW hU hw⟩⟩ rfl rfl hl.1 rfl (lv_room (Nat.le_of_ble_eq_true rfl)) dL_setRules_7 ⟨(Nat.le_of_ble_eq_true rfl), (Nat.le_of_ble_eq_true rfl)⟩) hS hK hown (htab.trans rfl) (fun _ h9 => absurd h9 List.not_mem_nil) rfl (by decide) (hts (.classLink RL 15 "java/lang/IllegalArgumentException") (by decide +kernel)) (by decide +kernel) (fun q9 H locs hW hS => ?_)
  refine lv_astore (lv' := [(5, .ref q9), (0, .ref (ad 0 0)), (1, .int (nI ra)), (2, .int (nI rb)), (3, .int z), (4, .ref (ad 24 0))]) hx hb dL_setRules_15 hl (by decide) rfl (fun ls hl => ?_)
  refine lv_iconst (v := nI 1) hx hb dL_setRules_17 (by decide) ?_
  exact k_riX hQ hx hb hr hlk hS hW ⟨rfl, rfl, rfl⟩ (Nat.le_of_ble_eq_true rfl) (Nat.le_of_ble_eq_true rfl) dL_setRules_18
set_option maxRecDepth 100000 in
set_option maxHeartbeats 4000000 in
theorem cw_setRules_ok (l : Launch) (hlt : l.stackTraces = false) (g : k_g) (ad : k_AD) (t : k_T) (ra : Nat) (rb : Nat) (rc : Nat) (h1 : ra ≤ 30) (h2 : rb ≤ 20) (h3 : rc ≤ 12) (hwf : ∀ j, s_th t j = true → j < o_n t) (hbs : ∀ k b, k < o_n t → o_b t k = some b → b < o_n t ∧ b < k) (hth : ∀ j b, s_th t j = true → o_b t j = some b → s_th t b = true) (hn60 : o_n t ≤ 60) (hon : ∀ j, j < o_n t → o_on t j ≤ 360) : vx_Met l yL_setRules wsL_setRules rm_L_setRules (va_Pc [.ref (ad 0 0), .int (nI ra), .int (nI rb), .int (nI rc), .ref (ad 24 0)] (k_I g (k_ct g ad t) ad)) (va_Qi (S := k_T × k_AD) (fun r u => r = nI 0 ∧ u.1 = set_l_o (set_o_nd (set_o_pm (set_s_r3 (set_s_r2 (set_s_r1 t ra) rb) rc) (k_Pm (s_th t) (o_pm t) (o_on t) (ra) (rb) (rc))) (k_Nm (s_th t) (o_nd t) (k_Pm (s_th t) (o_pm t) (o_on t) (ra) (rb) (rc)) (o_b t))) (va_up (l_o t) 0 ((nI (k_cb (fun k => (s_th t) k && (k_Pm (s_th t) (o_pm t) (o_on t) (ra) (rb) (rc)) k) 60)).toInt64)) ∧ u.2 = ad) (fun u U => k_H g u.2 u.1 U.heap) (k_A g)) (fun _ _ _ => False) 3 18 (k_A g) := by
  refine k_metH (cc := cL_setRules) (maxL := 6) (ret := (some .int)) (by decide) rfl (Nat.le_of_ble_eq_true rfl) (fun p e s m args below meth c Q ls hQ hx hb hr hml hts hown hlk htab hK hZ hN hW hS hl => ?_)
  have hown : s.vm.findClass RL = some m.cls := hown
  have hW : k_H g ad t s.heap := hW
  have hl : lv_has ls 6 [(0, .ref (ad 0 0)), (1, .int (nI ra)), (2, .int (nI rb)), (3, .int (nI rc)), (4, .ref (ad 24 0))] := hl
  refine lv_aload hx hb dL_setRules_0 (lv_at hl 4 rfl) ?_
  refine lv_iconst (v := nI 0) hx hb dL_setRules_2 (by decide) ?_
  refine lv_aload_n hx hb dL_setRules_3 rfl (lv_at hl 0 rfl) ?_
  refine lv_iload_n hx hb dL_setRules_4 rfl (lv_at hl 1 rfl) ?_
  refine lv_iload_n hx hb dL_setRules_5 rfl (lv_at hl 2 rfl) ?_
  refine lv_iload_n hx hb dL_setRules_6 rfl (lv_at hl 3 rfl) ?_
  refine k_ci (va_runV (As := [.int (nI ra), .int (nI rb), .int (nI rc)]) (rest := [.int (nI 0), .ref (ad 24 0)]) ⟨hx, hb, hml, hown, hts⟩ (c_X4_setRules_ok l hlt g ad t ra rb rc h1 h2 h3 hwf hbs hth hn60 hon) (cwV 3 hts gL_setRules_X4_setRules rfl rfl rfl (by decide +kernel) ⟨(Nat.le_of_ble_eq_true rfl), (Nat.le_of_ble_eq_true rfl)⟩) ⟨k_blind, k_recv hK hW (kc_0 g ad t) rfl, fun U hU hw => ⟨rfl, k_I.of hK hZ hN hS hW hU hw⟩⟩ rfl rfl hl.1 rfl (lv_room (Nat.le_of_ble_eq_true rfl)) dL_setRules_7 ⟨(Nat.le_of_ble_eq_true rfl), (Nat.le_of_ble_eq_true rfl)⟩) hS (fun r u H locs hpo hW hS => ?_)
  obtain ⟨hr9, hu9⟩ := hpo; replace hu9 := hu9.symm; subst hu9; replace hr9 := hr9.symm; subst hr9
  have hW : k_H g ad (set_o_nd (set_o_pm (set_s_r3 (set_s_r2 (set_s_r1 t ra) rb) rc) (k_Pm (s_th t) (o_pm t) (o_on t) (ra) (rb) (rc))) (k_Nm (s_th t) (o_nd t) (k_Pm (s_th t) (o_pm t) (o_on t) (ra) (rb) (rc)) (o_b t))) H := hW
  refine lv_i2l hx hb (v := (nI (k_cb (fun k => (s_th t) k && (k_Pm (s_th t) (o_pm t) (o_on t) (ra) (rb) (rc)) k) 60)).toInt64) dL_setRules_10 rfl ?_
  refine k_last hx hb hK hW hS (kc_24 g ad (set_o_nd (set_o_pm (set_s_r3 (set_s_r2 (set_s_r1 t ra) rb) rc) (k_Pm (s_th t) (o_pm t) (o_on t) (ra) (rb) (rc))) (k_Nm (s_th t) (o_nd t) (k_Pm (s_th t) (o_pm t) (o_on t) (ra) (rb) (rc)) (o_b t)))) 0 rfl (by omega) (by decide) dL_setRules_11 (fun H locs hW hS => ?_)
  have hW : k_H g ad (set_l_o (set_o_nd (set_o_pm (set_s_r3 (set_s_r2 (set_s_r1 t ra) rb) rc) (k_Pm (s_th t) (o_pm t) (o_on t) (ra) (rb) (rc))) (k_Nm (s_th t) (o_nd t) (k_Pm (s_th t) (o_pm t) (o_on t) (ra) (rb) (rc)) (o_b t))) (va_up (l_o t) 0 ((nI (k_cb (fun k => (s_th t) k && (k_Pm (s_th t) (o_pm t) (o_on t) (ra) (rb) (rc)) k) 60)).toInt64))) H := kt_l_o (t := set_o_nd (set_o_pm (set_s_r3 (set_s_r2 (set_s_r1 t ra) rb) rc) (k_Pm (s_th t) (o_pm t) (o_on t) (ra) (rb) (rc))) (k_Nm (s_th t) (o_nd t) (k_Pm (s_th t) (o_pm t) (o_on t) (ra) (rb) (rc)) (o_b t))) 0 ((nI (k_cb (fun k => (s_th t) k && (k_Pm (s_th t) (o_pm t) (o_on t) (ra) (rb) (rc)) k) 60)).toInt64) hW
  refine lv_goto (tgt := 19) hx hb dL_setRules_12 (by decide) ?_
  refine lv_iconst (v := nI 0) hx hb dL_setRules_19 (by decide) ?_
  exact k_riX hQ hx hb hr hlk hS hW ⟨rfl, rfl, rfl⟩ (Nat.le_of_ble_eq_true rfl) (Nat.le_of_ble_eq_true rfl) dL_setRules_20
abbrev rm_L_restore : Room := { frames := 8, cells := 2, slots := 12, locals := 135 }
set_option maxRecDepth 100000 in
set_option maxHeartbeats 4000000 in
theorem cw_restore_b (l : Launch) (hlt : l.stackTraces = false) (g : k_g) (ad : k_AD) (t : k_T) (z : Int32) (y : Int32) (hz : z < 0 ∨ nI 60 ≤ z ∨ ∃ j, j < 60 ∧ z = nI j ∧ s_th t j = false) : vx_Met l yL_restore wsL_restore rm_L_restore (va_Pc [.ref (ad 0 0), .int z, .int y, .ref (ad 24 0)] (k_I g (k_ct g ad t) ad)) (va_Qi (S := k_T × k_AD) (fun r u => r = nI 1 ∧ u.1 = t ∧ u.2 = ad) (fun u U => k_H g u.2 u.1 U.heap) (k_A g)) (fun _ _ _ => False) 2 12 (k_A g) := by
  refine k_metH (cc := cL_restore) (maxL := 5) (ret := (some .int)) (by decide) rfl (Nat.le_of_ble_eq_true rfl) (fun p e s m args below meth c Q ls hQ hx hb hr hml hts hown hlk htab hK hZ hN hW hS hl => ?_)
  have hown : s.vm.findClass RL = some m.cls := hown
  have hW : k_H g ad t s.heap := hW
  have hl : lv_has ls 5 [(0, .ref (ad 0 0)), (1, .int z), (2, .int y), (3, .ref (ad 24 0))] := hl
  refine lv_aload_n hx hb dL_restore_0 rfl (lv_at hl 3 rfl) ?_
  refine lv_iconst (v := nI 0) hx hb dL_restore_1 (by decide) ?_
  refine lv_aload_n hx hb dL_restore_2 rfl (lv_at hl 0 rfl) ?_
  refine lv_iload_n hx hb dL_restore_3 rfl (lv_at hl 1 rfl) ?_
  refine lv_iload_n hx hb dL_restore_4 rfl (lv_at hl 2 rfl) ?_
  refine k_xc (E0 := "java/lang/IndexOutOfBoundsException") (pre := []) (x := ⟨0, 10, 13, 13⟩) (suf := []) (vx_runV (As := [.int z, .int y]) (rest := [.int (nI 0), .ref (ad 24 0)]) ⟨hx, hb, hml, hown, hts⟩ (c_X4_restore_b l hlt g ad t z y hz) (cwV 2 hts gL_restore_X4_restore rfl rfl rfl (by decide +kernel) ⟨(Nat.le_of_ble_eq_true rfl), (Nat.le_of_ble_eq_true rfl)⟩) ⟨k_blind, k_recv hK hW (kc_0 g ad t) rfl, fun U hU hw => ⟨rfl, k_I.of hK hZ hN hS hW hU hw⟩⟩ rfl rfl hl.1 rfl (lv_room (Nat.le_of_ble_eq_true rfl)) dL_restore_5 ⟨(Nat.le_of_ble_eq_true rfl), (Nat.le_of_ble_eq_true rfl)⟩) hS hK hown (htab.trans rfl) (fun _ h9 => absurd h9 List.not_mem_nil) rfl (by decide) (hts (.classLink RL 13 "java/lang/IndexOutOfBoundsException") (by decide +kernel)) (by decide +kernel) (fun q9 H locs hW hS => ?_)
  refine lv_astore (lv' := [(4, .ref q9), (0, .ref (ad 0 0)), (1, .int z), (2, .int y), (3, .ref (ad 24 0))]) hx hb dL_restore_13 hl (by decide) rfl (fun ls hl => ?_)
  refine lv_iconst (v := nI 1) hx hb dL_restore_15 (by decide) ?_
  exact k_riX hQ hx hb hr hlk hS hW ⟨rfl, rfl, rfl⟩ (Nat.le_of_ble_eq_true rfl) (Nat.le_of_ble_eq_true rfl) dL_restore_16
set_option maxRecDepth 100000 in
set_option maxHeartbeats 4000000 in
theorem cw_restore_bf (l : Launch) (hlt : l.stackTraces = false) (g : k_g) (ad : k_AD) (t : k_T) (j : Nat) (z : Int32) (hj : j < 60) (hs : s_th t j = true) (hz : z < 0 ∨ nI 10 ≤ z) : vx_Met l yL_restore wsL_restore rm_L_restore (va_Pc [.ref (ad 0 0), .int (nI j), .int z, .ref (ad 24 0)] (k_I g (k_ct g ad t) ad)) (va_Qi (S := k_T × k_AD) (fun r u => r = nI 1 ∧ u.1 = t ∧ u.2 = ad) (fun u U => k_H g u.2 u.1 U.heap) (k_A g)) (fun _ _ _ => False) 2 12 (k_A g) := by
  refine k_metH (cc := cL_restore) (maxL := 5) (ret := (some .int)) (by decide) rfl (Nat.le_of_ble_eq_true rfl) (fun p e s m args below meth c Q ls hQ hx hb hr hml hts hown hlk htab hK hZ hN hW hS hl => ?_)
  have hown : s.vm.findClass RL = some m.cls := hown
  have hW : k_H g ad t s.heap := hW
  have hl : lv_has ls 5 [(0, .ref (ad 0 0)), (1, .int (nI j)), (2, .int z), (3, .ref (ad 24 0))] := hl
  refine lv_aload_n hx hb dL_restore_0 rfl (lv_at hl 3 rfl) ?_
  refine lv_iconst (v := nI 0) hx hb dL_restore_1 (by decide) ?_
  refine lv_aload_n hx hb dL_restore_2 rfl (lv_at hl 0 rfl) ?_
  refine lv_iload_n hx hb dL_restore_3 rfl (lv_at hl 1 rfl) ?_
  refine lv_iload_n hx hb dL_restore_4 rfl (lv_at hl 2 rfl) ?_
  refine k_xc (E0 := "java/lang/IndexOutOfBoundsException") (pre := []) (x := ⟨0, 10, 13, 13⟩) (suf := []) (vx_runV (As := [.int (nI j), .int z]) (rest := [.int (nI 0), .ref (ad 24 0)]) ⟨hx, hb, hml, hown, hts⟩ (c_X4_restore_bf l hlt g ad t j z hj hs hz) (cwV 2 hts gL_restore_X4_restore rfl rfl rfl (by decide +kernel) ⟨(Nat.le_of_ble_eq_true rfl), (Nat.le_of_ble_eq_true rfl)⟩) ⟨k_blind, k_recv hK hW (kc_0 g ad t) rfl, fun U hU hw => ⟨rfl, k_I.of hK hZ hN hS hW hU hw⟩⟩ rfl rfl hl.1 rfl (lv_room (Nat.le_of_ble_eq_true rfl)) dL_restore_5 ⟨(Nat.le_of_ble_eq_true rfl), (Nat.le_of_ble_eq_true rfl)⟩) hS hK hown (htab.trans rfl) (fun _ h9 => absurd h9 List.not_mem_nil) rfl (by decide) (hts (.classLink RL 13 "java/lang/IndexOutOfBoundsException") (by decide +kernel)) (by decide +kernel) (fun q9 H locs hW hS => ?_)
  refine lv_astore (lv' := [(4, .ref q9), (0, .ref (ad 0 0)), (1, .int (nI j)), (2, .int z), (3, .ref (ad 24 0))]) hx hb dL_restore_13 hl (by decide) rfl (fun ls hl => ?_)
  refine lv_iconst (v := nI 1) hx hb dL_restore_15 (by decide) ?_
  exact k_riX hQ hx hb hr hlk hS hW ⟨rfl, rfl, rfl⟩ (Nat.le_of_ble_eq_true rfl) (Nat.le_of_ble_eq_true rfl) dL_restore_16
set_option maxRecDepth 100000 in
set_option maxHeartbeats 4000000 in
theorem cw_restore_ok (l : Launch) (hlt : l.stackTraces = false) (g : k_g) (ad : k_AD) (t : k_T) (j : Nat) (f : Nat) (hj : j < 60) (hs : s_th t j = true) (hf : f < 10) (hwf : ∀ j, s_th t j = true → j < o_n t) (hbs : ∀ k b, k < o_n t → o_b t k = some b → b < o_n t ∧ b < k) : vx_Met l yL_restore wsL_restore rm_L_restore (va_Pc [.ref (ad 0 0), .int (nI j), .int (nI f), .ref (ad 24 0)] (k_I g (k_ct g ad t) ad)) (va_Qi (S := k_T × k_AD) (fun r u => r = nI 0 ∧ u.1 = set_l_o t (va_up (l_o t) 0 ((k_fk (o_k t) f (k_cl (o_b t) j)).toInt64)) ∧ u.2 = ad) (fun u U => k_H g u.2 u.1 U.heap) (k_A g)) (fun _ _ _ => False) 2 12 (k_A g) := by
  refine k_metH (cc := cL_restore) (maxL := 5) (ret := (some .int)) (by decide) rfl (Nat.le_of_ble_eq_true rfl) (fun p e s m args below meth c Q ls hQ hx hb hr hml hts hown hlk htab hK hZ hN hW hS hl => ?_)
  have hown : s.vm.findClass RL = some m.cls := hown
  have hW : k_H g ad t s.heap := hW
  have hl : lv_has ls 5 [(0, .ref (ad 0 0)), (1, .int (nI j)), (2, .int (nI f)), (3, .ref (ad 24 0))] := hl
  refine lv_aload_n hx hb dL_restore_0 rfl (lv_at hl 3 rfl) ?_
  refine lv_iconst (v := nI 0) hx hb dL_restore_1 (by decide) ?_
  refine lv_aload_n hx hb dL_restore_2 rfl (lv_at hl 0 rfl) ?_
  refine lv_iload_n hx hb dL_restore_3 rfl (lv_at hl 1 rfl) ?_
  refine lv_iload_n hx hb dL_restore_4 rfl (lv_at hl 2 rfl) ?_
  refine k_ci (va_runV (As := [.int (nI j), .int (nI f)]) (rest := [.int (nI 0), .ref (ad 24 0)]) ⟨hx, hb, hml, hown, hts⟩ (c_X4_restore_ok l hlt g ad t j f hj hs hf hwf hbs) (cwV 2 hts gL_restore_X4_restore rfl rfl rfl (by decide +kernel) ⟨(Nat.le_of_ble_eq_true rfl), (Nat.le_of_ble_eq_true rfl)⟩) ⟨k_blind, k_recv hK hW (kc_0 g ad t) rfl, fun U hU hw => ⟨rfl, k_I.of hK hZ hN hS hW hU hw⟩⟩ rfl rfl hl.1 rfl (lv_room (Nat.le_of_ble_eq_true rfl)) dL_restore_5 ⟨(Nat.le_of_ble_eq_true rfl), (Nat.le_of_ble_eq_true rfl)⟩) hS (fun r u H locs hpo hW hS => ?_)
  obtain ⟨hr9, hu9⟩ := hpo; replace hu9 := hu9.symm; subst hu9; replace hr9 := hr9.symm; subst hr9
  refine lv_i2l hx hb (v := (k_fk (o_k t) f (k_cl (o_b t) j)).toInt64) dL_restore_8 rfl ?_
  refine k_last hx hb hK hW hS (kc_24 g ad t) 0 rfl (by omega) (by decide) dL_restore_9 (fun H locs hW hS => ?_)
  have hW : k_H g ad (set_l_o t (va_up (l_o t) 0 ((k_fk (o_k t) f (k_cl (o_b t) j)).toInt64))) H := kt_l_o (t := t) 0 ((k_fk (o_k t) f (k_cl (o_b t) j)).toInt64) hW
  refine lv_goto (tgt := 17) hx hb dL_restore_10 (by decide) ?_
  refine lv_iconst (v := nI 0) hx hb dL_restore_17 (by decide) ?_
  exact k_riX hQ hx hb hr hlk hS hW ⟨rfl, rfl, rfl⟩ (Nat.le_of_ble_eq_true rfl) (Nat.le_of_ble_eq_true rfl) dL_restore_18
abbrev rm_L_restoreByChanges : Room := { frames := 8, cells := 2, slots := 12, locals := 135 }
set_option maxRecDepth 100000 in
set_option maxHeartbeats 4000000 in
theorem cw_restoreByChanges_b (l : Launch) (hlt : l.stackTraces = false) (g : k_g) (ad : k_AD) (t : k_T) (z : Int32) (y : Int32) (hz : z < 0 ∨ nI 60 ≤ z ∨ ∃ j, j < 60 ∧ z = nI j ∧ s_th t j = false) : vx_Met l yL_restoreByChanges wsL_restoreByChanges rm_L_restoreByChanges (va_Pc [.ref (ad 0 0), .int z, .int y, .ref (ad 24 0)] (k_I g (k_ct g ad t) ad)) (va_Qi (S := k_T × k_AD) (fun r u => r = nI 1 ∧ u.1 = t ∧ u.2 = ad) (fun u U => k_H g u.2 u.1 U.heap) (k_A g)) (fun _ _ _ => False) 2 12 (k_A g) := by
  refine k_metH (cc := cL_restoreByChanges) (maxL := 5) (ret := (some .int)) (by decide) rfl (Nat.le_of_ble_eq_true rfl) (fun p e s m args below meth c Q ls hQ hx hb hr hml hts hown hlk htab hK hZ hN hW hS hl => ?_)
  have hown : s.vm.findClass RL = some m.cls := hown
  have hW : k_H g ad t s.heap := hW
  have hl : lv_has ls 5 [(0, .ref (ad 0 0)), (1, .int z), (2, .int y), (3, .ref (ad 24 0))] := hl
  refine lv_aload_n hx hb dL_restoreByChanges_0 rfl (lv_at hl 3 rfl) ?_
  refine lv_iconst (v := nI 0) hx hb dL_restoreByChanges_1 (by decide) ?_
  refine lv_aload_n hx hb dL_restoreByChanges_2 rfl (lv_at hl 0 rfl) ?_
  refine lv_iload_n hx hb dL_restoreByChanges_3 rfl (lv_at hl 1 rfl) ?_
  refine lv_iload_n hx hb dL_restoreByChanges_4 rfl (lv_at hl 2 rfl) ?_
  refine k_xc (E0 := "java/lang/IndexOutOfBoundsException") (pre := []) (x := ⟨0, 10, 13, 13⟩) (suf := []) (vx_runV (As := [.int z, .int y]) (rest := [.int (nI 0), .ref (ad 24 0)]) ⟨hx, hb, hml, hown, hts⟩ (c_X4_restoreByChanges_b l hlt g ad t z y hz) (cwV 2 hts gL_restoreByChanges_X4_restoreByChanges rfl rfl rfl (by decide +kernel) ⟨(Nat.le_of_ble_eq_true rfl), (Nat.le_of_ble_eq_true rfl)⟩) ⟨k_blind, k_recv hK hW (kc_0 g ad t) rfl, fun U hU hw => ⟨rfl, k_I.of hK hZ hN hS hW hU hw⟩⟩ rfl rfl hl.1 rfl (lv_room (Nat.le_of_ble_eq_true rfl)) dL_restoreByChanges_5 ⟨(Nat.le_of_ble_eq_true rfl), (Nat.le_of_ble_eq_true rfl)⟩) hS hK hown (htab.trans rfl) (fun _ h9 => absurd h9 List.not_mem_nil) rfl (by decide) (hts (.classLink RL 13 "java/lang/IndexOutOfBoundsException") (by decide +kernel)) (by decide +kernel) (fun q9 H locs hW hS => ?_)
  refine lv_astore (lv' := [(4, .ref q9), (0, .ref (ad 0 0)), (1, .int z), (2, .int y), (3, .ref (ad 24 0))]) hx hb dL_restoreByChanges_13 hl (by decide) rfl (fun ls hl => ?_)
  refine lv_iconst (v := nI 1) hx hb dL_restoreByChanges_15 (by decide) ?_
  exact k_riX hQ hx hb hr hlk hS hW ⟨rfl, rfl, rfl⟩ (Nat.le_of_ble_eq_true rfl) (Nat.le_of_ble_eq_true rfl) dL_restoreByChanges_16
set_option maxRecDepth 100000 in
set_option maxHeartbeats 4000000 in
theorem cw_restoreByChanges_bf (l : Launch) (hlt : l.stackTraces = false) (g : k_g) (ad : k_AD) (t : k_T) (j : Nat) (z : Int32) (hj : j < 60) (hs : s_th t j = true) (hz : z < 0 ∨ nI 10 ≤ z) : vx_Met l yL_restoreByChanges wsL_restoreByChanges rm_L_restoreByChanges (va_Pc [.ref (ad 0 0), .int (nI j), .int z, .ref (ad 24 0)] (k_I g (k_ct g ad t) ad)) (va_Qi (S := k_T × k_AD) (fun r u => r = nI 1 ∧ u.1 = t ∧ u.2 = ad) (fun u U => k_H g u.2 u.1 U.heap) (k_A g)) (fun _ _ _ => False) 2 12 (k_A g) := by
  refine k_metH (cc := cL_restoreByChanges) (maxL := 5) (ret := (some .int)) (by decide) rfl (Nat.le_of_ble_eq_true rfl) (fun p e s m args below meth c Q ls hQ hx hb hr hml hts hown hlk htab hK hZ hN hW hS hl => ?_)
  have hown : s.vm.findClass RL = some m.cls := hown
  have hW : k_H g ad t s.heap := hW
  have hl : lv_has ls 5 [(0, .ref (ad 0 0)), (1, .int (nI j)), (2, .int z), (3, .ref (ad 24 0))] := hl
  refine lv_aload_n hx hb dL_restoreByChanges_0 rfl (lv_at hl 3 rfl) ?_
  refine lv_iconst (v := nI 0) hx hb dL_restoreByChanges_1 (by decide) ?_
  refine lv_aload_n hx hb dL_restoreByChanges_2 rfl (lv_at hl 0 rfl) ?_
  refine lv_iload_n hx hb dL_restoreByChanges_3 rfl (lv_at hl 1 rfl) ?_
  refine lv_iload_n hx hb dL_restoreByChanges_4 rfl (lv_at hl 2 rfl) ?_
  refine k_xc (E0 := "java/lang/IndexOutOfBoundsException") (pre := []) (x := ⟨0, 10, 13, 13⟩) (suf := []) (vx_runV (As := [.int (nI j), .int z]) (rest := [.int (nI 0), .ref (ad 24 0)]) ⟨hx, hb, hml, hown, hts⟩ (c_X4_restoreByChanges_bf l hlt g ad t j z hj hs hz) (cwV 2 hts gL_restoreByChanges_X4_restoreByChanges rfl rfl rfl (by decide +kernel) ⟨(Nat.le_of_ble_eq_true rfl), (Nat.le_of_ble_eq_true rfl)⟩) ⟨k_blind, k_recv hK hW (kc_0 g ad t) rfl, fun U hU hw => ⟨rfl, k_I.of hK hZ hN hS hW hU hw⟩⟩ rfl rfl hl.1 rfl (lv_room (Nat.le_of_ble_eq_true rfl)) dL_restoreByChanges_5 ⟨(Nat.le_of_ble_eq_true rfl), (Nat.le_of_ble_eq_true rfl)⟩) hS hK hown (htab.trans rfl) (fun _ h9 => absurd h9 List.not_mem_nil) rfl (by decide) (hts (.classLink RL 13 "java/lang/IndexOutOfBoundsException") (by decide +kernel)) (by decide +kernel) (fun q9 H locs hW hS => ?_)
  refine lv_astore (lv' := [(4, .ref q9), (0, .ref (ad 0 0)), (1, .int (nI j)), (2, .int z), (3, .ref (ad 24 0))]) hx hb dL_restoreByChanges_13 hl (by decide) rfl (fun ls hl => ?_)
  refine lv_iconst (v := nI 1) hx hb dL_restoreByChanges_15 (by decide) ?_
  exact k_riX hQ hx hb hr hlk hS hW ⟨rfl, rfl, rfl⟩ (Nat.le_of_ble_eq_true rfl) (Nat.le_of_ble_eq_true rfl) dL_restoreByChanges_16
set_option maxRecDepth 100000 in
set_option maxHeartbeats 4000000 in
theorem cw_restoreByChanges_ok (l : Launch) (hlt : l.stackTraces = false) (g : k_g) (ad : k_AD) (t : k_T) (j : Nat) (f : Nat) (hj : j < 60) (hs : s_th t j = true) (hf : f < 10) (hwf : ∀ j, s_th t j = true → j < o_n t) (hca : o_ca t j ≤ 300) (hlf : ∀ i, i < o_ca t j → f_lf t i < 10) : vx_Met l yL_restoreByChanges wsL_restoreByChanges rm_L_restoreByChanges (va_Pc [.ref (ad 0 0), .int (nI j), .int (nI f), .ref (ad 24 0)] (k_I g (k_ct g ad t) ad)) (va_Qi (S := k_T × k_AD) (fun r u => r = nI 0 ∧ u.1 = set_l_o t (va_up (l_o t) 0 ((k_log (f_lf t) (f_lt t) (o_ca t j) f).toInt64)) ∧ u.2 = ad) (fun u U => k_H g u.2 u.1 U.heap) (k_A g)) (fun _ _ _ => False) 2 12 (k_A g) := by
  refine k_metH (cc := cL_restoreByChanges) (maxL := 5) (ret := (some .int)) (by decide) rfl (Nat.le_of_ble_eq_true rfl) (fun p e s m args below meth c Q ls hQ hx hb hr hml hts hown hlk htab hK hZ hN hW hS hl => ?_)
  have hown : s.vm.findClass RL = some m.cls := hown
  have hW : k_H g ad t s.heap := hW
  have hl : lv_has ls 5 [(0, .ref (ad 0 0)), (1, .int (nI j)), (2, .int (nI f)), (3, .ref (ad 24 0))] := hl
  refine lv_aload_n hx hb dL_restoreByChanges_0 rfl (lv_at hl 3 rfl) ?_
  refine lv_iconst (v := nI 0) hx hb dL_restoreByChanges_1 (by decide) ?_
  refine lv_aload_n hx hb dL_restoreByChanges_2 rfl (lv_at hl 0 rfl) ?_
  refine lv_iload_n hx hb dL_restoreByChanges_3 rfl (lv_at hl 1 rfl) ?_
  refine lv_iload_n hx hb dL_restoreByChanges_4 rfl (lv_at hl 2 rfl) ?_
  refine k_ci (va_runV (As := [.int (nI j), .int (nI f)]) (rest := [.int (nI 0), .ref (ad 24 0)]) ⟨hx, hb, hml, hown, hts⟩ (c_X4_restoreByChanges_ok l hlt g ad t j f hj hs hf hwf hca hlf) (cwV 2 hts gL_restoreByChanges_X4_restoreByChanges rfl rfl rfl (by decide +kernel) ⟨(Nat.le_of_ble_eq_true rfl), (Nat.le_of_ble_eq_true rfl)⟩) ⟨k_blind, k_recv hK hW (kc_0 g ad t) rfl, fun U hU hw => ⟨rfl, k_I.of hK hZ hN hS hW hU hw⟩⟩ rfl rfl hl.1 rfl (lv_room (Nat.le_of_ble_eq_true rfl)) dL_restoreByChanges_5 ⟨(Nat.le_of_ble_eq_true rfl), (Nat.le_of_ble_eq_true rfl)⟩) hS (fun r u H locs hpo hW hS => ?_)
  obtain ⟨hr9, hu9⟩ := hpo; replace hu9 := hu9.symm; subst hu9; replace hr9 := hr9.symm; subst hr9
  refine lv_i2l hx hb (v := (k_log (f_lf t) (f_lt t) (o_ca t j) f).toInt64) dL_restoreByChanges_8 rfl ?_
  refine k_last hx hb hK hW hS (kc_24 g ad t) 0 rfl (by omega) (by decide) dL_restoreByChanges_9 (fun H locs hW hS => ?_)
  have hW : k_H g ad (set_l_o t (va_up (l_o t) 0 ((k_log (f_lf t) (f_lt t) (o_ca t j) f).toInt64))) H := kt_l_o (t := t) 0 ((k_log (f_lf t) (f_lt t) (o_ca t j) f).toInt64) hW
  refine lv_goto (tgt := 17) hx hb dL_restoreByChanges_10 (by decide) ?_
  refine lv_iconst (v := nI 0) hx hb dL_restoreByChanges_17 (by decide) ?_
  exact k_riX hQ hx hb hr hlk hS hW ⟨rfl, rfl, rfl⟩ (Nat.le_of_ble_eq_true rfl) (Nat.le_of_ble_eq_true rfl) dL_restoreByChanges_18
abbrev rm_L_onCall : Room := { frames := 7, cells := 1, slots := 6, locals := 111 }
set_option maxRecDepth 100000 in
set_option maxHeartbeats 4000000 in
theorem cw_onCall_b (l : Launch) (hlt : l.stackTraces = false) (g : k_g) (ad : k_AD) (t : k_T) (z : Int32) (hz : z < 0 ∨ nI 364 < z) : vx_Met l yL_onCall wsL_onCall rm_L_onCall (va_Pc [.ref (ad 0 0), .int z, .ref (ad 24 0)] (k_I g (k_ct g ad t) ad)) (va_Qi (S := k_T × k_AD) (fun r u => r = nI 1 ∧ u.1 = t ∧ u.2 = ad) (fun u U => k_H g u.2 u.1 U.heap) (k_A g)) (fun _ _ _ => False) 1 6 (k_A g) := by
  refine k_metH (cc := cL_onCall) (maxL := 4) (ret := (some .int)) (by decide) rfl (Nat.le_of_ble_eq_true rfl) (fun p e s m args below meth c Q ls hQ hx hb hr hml hts hown hlk htab hK hZ hN hW hS hl => ?_)
  have hown : s.vm.findClass RL = some m.cls := hown
  have hW : k_H g ad t s.heap := hW
  have hl : lv_has ls 4 [(0, .ref (ad 0 0)), (1, .int z), (2, .ref (ad 24 0))] := hl
  refine lv_aload_n hx hb dL_onCall_0 rfl (lv_at hl 2 rfl) ?_
  refine lv_iconst (v := nI 0) hx hb dL_onCall_1 (by decide) ?_
  refine lv_aload_n hx hb dL_onCall_2 rfl (lv_at hl 0 rfl) ?_
  refine lv_iload_n hx hb dL_onCall_3 rfl (lv_at hl 1 rfl) ?_
  refine k_xc (E0 := "java/lang/IllegalArgumentException") (pre := []) (x := ⟨0, 9, 12, 15⟩) (suf := []) (vx_runV (As := [.int z]) (rest := [.int (nI 0), .ref (ad 24 0)]) ⟨hx, hb, hml, hown, hts⟩ (c_X4_onCall_b l hlt g ad t z hz) (cwV 1 hts gL_onCall_X4_onCall rfl rfl rfl (by decide +kernel) ⟨(Nat.le_of_ble_eq_true rfl), (Nat.le_of_ble_eq_true rfl)⟩) ⟨k_blind, k_recv hK hW (kc_0 g ad t) rfl, fun U hU hw => ⟨rfl, k_I.of hK hZ hN hS hW hU hw⟩⟩ rfl rfl hl.1 rfl (lv_room (Nat.le_of_ble_eq_true rfl)) dL_onCall_4 ⟨(Nat.le_of_ble_eq_true rfl), (Nat.le_of_ble_eq_true rfl)⟩) hS hK hown (htab.trans rfl) (fun _ h9 => absurd h9 List.not_mem_nil) rfl (by decide) (hts (.classLink RL 15 "java/lang/IllegalArgumentException") (by decide +kernel)) (by decide +kernel) (fun q9 H locs hW hS => ?_)
  refine lv_astore_n (lv' := [(3, .ref q9), (0, .ref (ad 0 0)), (1, .int z), (2, .ref (ad 24 0))]) hx hb dL_onCall_12 rfl hl (by decide) rfl (fun ls hl => ?_)
  refine lv_iconst (v := nI 1) hx hb dL_onCall_13 (by decide) ?_
  exact k_riX hQ hx hb hr hlk hS hW ⟨rfl, rfl, rfl⟩ (Nat.le_of_ble_eq_true rfl) (Nat.le_of_ble_eq_true rfl) dL_onCall_14
set_option maxRecDepth 100000 in
set_option maxHeartbeats 4000000 in
theorem cw_onCall_ok (l : Launch) (hlt : l.stackTraces = false) (g : k_g) (ad : k_AD) (t : k_T) (j : Nat) (hj : j ≤ 364) : vx_Met l yL_onCall wsL_onCall rm_L_onCall (va_Pc [.ref (ad 0 0), .int (nI j), .ref (ad 24 0)] (k_I g (k_ct g ad t) ad)) (va_Qi (S := k_T × k_AD) (fun r u => r = nI 0 ∧ u.1 = set_l_o t (va_up (l_o t) 0 ((nI (r_p t j)).toInt64)) ∧ u.2 = ad) (fun u U => k_H g u.2 u.1 U.heap) (k_A g)) (fun _ _ _ => False) 1 6 (k_A g) := by
  refine k_metH (cc := cL_onCall) (maxL := 4) (ret := (some .int)) (by decide) rfl (Nat.le_of_ble_eq_true rfl) (fun p e s m args below meth c Q ls hQ hx hb hr hml hts hown hlk htab hK hZ hN hW hS hl => ?_)
  have hown : s.vm.findClass RL = some m.cls := hown
  have hW : k_H g ad t s.heap := hW
  have hl : lv_has ls 4 [(0, .ref (ad 0 0)), (1, .int (nI j)), (2, .ref (ad 24 0))] := hl
  refine lv_aload_n hx hb dL_onCall_0 rfl (lv_at hl 2 rfl) ?_
  refine lv_iconst (v := nI 0) hx hb dL_onCall_1 (by decide) ?_
  refine lv_aload_n hx hb dL_onCall_2 rfl (lv_at hl 0 rfl) ?_
  refine lv_iload_n hx hb dL_onCall_3 rfl (lv_at hl 1 rfl) ?_
  refine k_ci (va_runV (As := [.int (nI j)]) (rest := [.int (nI 0), .ref (ad 24 0)]) ⟨hx, hb, hml, hown, hts⟩ (c_X4_onCall_ok l hlt g ad t j hj) (cwV 1 hts gL_onCall_X4_onCall rfl rfl rfl (by decide +kernel) ⟨(Nat.le_of_ble_eq_true rfl), (Nat.le_of_ble_eq_true rfl)⟩) ⟨k_blind, k_recv hK hW (kc_0 g ad t) rfl, fun U hU hw => ⟨rfl, k_I.of hK hZ hN hS hW hU hw⟩⟩ rfl rfl hl.1 rfl (lv_room (Nat.le_of_ble_eq_true rfl)) dL_onCall_4 ⟨(Nat.le_of_ble_eq_true rfl), (Nat.le_of_ble_eq_true rfl)⟩) hS (fun r u H locs hpo hW hS => ?_)
  obtain ⟨hr9, hu9⟩ := hpo; replace hu9 := hu9.symm; subst hu9; replace hr9 := hr9.symm; subst hr9
  refine lv_i2l hx hb (v := (nI (r_p t j)).toInt64) dL_onCall_7 rfl ?_
  refine k_last hx hb hK hW hS (kc_24 g ad t) 0 rfl (by omega) (by decide) dL_onCall_8 (fun H locs hW hS => ?_)
  have hW : k_H g ad (set_l_o t (va_up (l_o t) 0 ((nI (r_p t j)).toInt64))) H := kt_l_o (t := t) 0 ((nI (r_p t j)).toInt64) hW
  refine lv_goto (tgt := 15) hx hb dL_onCall_9 (by decide) ?_
  refine lv_iconst (v := nI 0) hx hb dL_onCall_15 (by decide) ?_
  exact k_riX hQ hx hb hr hlk hS hW ⟨rfl, rfl, rfl⟩ (Nat.le_of_ble_eq_true rfl) (Nat.le_of_ble_eq_true rfl) dL_onCall_16
abbrev rm_L_swap : Room := { frames := 7, cells := 2, slots := 12, locals := 112 }
set_option maxRecDepth 100000 in
set_option maxHeartbeats 4000000 in
theorem cw_swap_b1 (l : Launch) (hlt : l.stackTraces = false) (g : k_g) (ad : k_AD) (t : k_T) (z : Int32) (y : Int32) (hd : x_d t ≤ 360) (hz : z < nI (x_d t) ∨ nI 364 < z) : vx_Met l yL_swap wsL_swap rm_L_swap (va_Pc [.ref (ad 0 0), .int z, .int y, .ref (ad 24 0)] (k_I g (k_ct g ad t) ad)) (va_Qi (S := k_T × k_AD) (fun r u => r = nI 1 ∧ u.1 = t ∧ u.2 = ad) (fun u U => k_H g u.2 u.1 U.heap) (k_A g)) (fun _ _ _ => False) 2 12 (k_A g) := by
  refine k_metH (cc := cL_swap) (maxL := 5) (ret := (some .int)) (by decide) rfl (Nat.le_of_ble_eq_true rfl) (fun p e s m args below meth c Q ls hQ hx hb hr hml hts hown hlk htab hK hZ hN hW hS hl => ?_)
  have hown : s.vm.findClass RL = some m.cls := hown
  have hW : k_H g ad t s.heap := hW
  have hl : lv_has ls 5 [(0, .ref (ad 0 0)), (1, .int z), (2, .int y), (3, .ref (ad 24 0))] := hl
  refine lv_aload_n hx hb dL_swap_0 rfl (lv_at hl 3 rfl) ?_
  refine lv_iconst (v := nI 0) hx hb dL_swap_1 (by decide) ?_
  refine lv_aload_n hx hb dL_swap_2 rfl (lv_at hl 0 rfl) ?_
  refine lv_iload_n hx hb dL_swap_3 rfl (lv_at hl 1 rfl) ?_
  refine lv_iload_n hx hb dL_swap_4 rfl (lv_at hl 2 rfl) ?_
  refine k_xc (E0 := "java/lang/IllegalArgumentException") (pre := []) (x := ⟨0, 10, 13, 15⟩) (suf := [⟨0, 10, 17, 17⟩]) (vx_runV (As := [.int z, .int y]) (rest := [.int (nI 0), .ref (ad 24 0)]) ⟨hx, hb, hml, hown, hts⟩ (c_X4_swap_b1 l hlt g ad t z y hd hz) (cwV 2 hts gL_swap_X4_swap rfl rfl rfl (by decide +kernel) ⟨(Nat.le_of_ble_eq_true rfl), (Nat.le_of_ble_eq_true rfl)⟩) ⟨k_blind, k_recv hK hW (kc_0 g ad t) rfl, fun U hU hw => ⟨rfl, k_I.of hK hZ hN hS hW hU hw⟩⟩ rfl rfl hl.1 rfl (lv_room (Nat.le_of_ble_eq_true rfl)) dL_swap_5 ⟨(Nat.le_of_ble_eq_true rfl), (Nat.le_of_ble_eq_true rfl)⟩) hS hK hown (htab.trans rfl) (fun _ h9 => absurd h9 List.not_mem_nil) rfl (by decide) (hts (.classLink RL 15 "java/lang/IllegalArgumentException") (by decide +kernel)) (by decide +kernel) (fun q9 H locs hW hS => ?_)
  refine lv_astore (lv' := [(4, .ref q9), (0, .ref (ad 0 0)), (1, .int z), (2, .int y), (3, .ref (ad 24 0))]) hx hb dL_swap_13 hl (by decide) rfl (fun ls hl => ?_)
  refine lv_iconst (v := nI 1) hx hb dL_swap_15 (by decide) ?_
  exact k_riX hQ hx hb hr hlk hS hW ⟨rfl, rfl, rfl⟩ (Nat.le_of_ble_eq_true rfl) (Nat.le_of_ble_eq_true rfl) dL_swap_16
set_option maxRecDepth 100000 in
set_option maxHeartbeats 4000000 in
theorem cw_swap_b2 (l : Launch) (hlt : l.stackTraces = false) (g : k_g) (ad : k_AD) (t : k_T) (j : Nat) (z : Int32) (hd : x_d t ≤ 360) (h1 : x_d t ≤ j) (h2 : j ≤ 364) (hz : z < nI (x_d t) ∨ nI 364 < z) : vx_Met l yL_swap wsL_swap rm_L_swap (va_Pc [.ref (ad 0 0), .int (nI j), .int z, .ref (ad 24 0)] (k_I g (k_ct g ad t) ad)) (va_Qi (S := k_T × k_AD) (fun r u => r = nI 1 ∧ u.1 = t ∧ u.2 = ad) (fun u U => k_H g u.2 u.1 U.heap) (k_A g)) (fun _ _ _ => False) 2 12 (k_A g) := by
  refine k_metH (cc := cL_swap) (maxL := 5) (ret := (some .int)) (by decide) rfl (Nat.le_of_ble_eq_true rfl) (fun p e s m args below meth c Q ls hQ hx hb hr hml hts hown hlk htab hK hZ hN hW hS hl => ?_)
  have hown : s.vm.findClass RL = some m.cls := hown
  have hW : k_H g ad t s.heap := hW
  have hl : lv_has ls 5 [(0, .ref (ad 0 0)), (1, .int (nI j)), (2, .int z), (3, .ref (ad 24 0))] := hl
  refine lv_aload_n hx hb dL_swap_0 rfl (lv_at hl 3 rfl) ?_
  refine lv_iconst (v := nI 0) hx hb dL_swap_1 (by decide) ?_
  refine lv_aload_n hx hb dL_swap_2 rfl (lv_at hl 0 rfl) ?_
  refine lv_iload_n hx hb dL_swap_3 rfl (lv_at hl 1 rfl) ?_
  refine lv_iload_n hx hb dL_swap_4 rfl (lv_at hl 2 rfl) ?_
  refine k_xc (E0 := "java/lang/IllegalArgumentException") (pre := []) (x := ⟨0, 10, 13, 15⟩) (suf := [⟨0, 10, 17, 17⟩]) (vx_runV (As := [.int (nI j), .int z]) (rest := [.int (nI 0), .ref (ad 24 0)]) ⟨hx, hb, hml, hown, hts⟩ (c_X4_swap_b2 l hlt g ad t j z hd h1 h2 hz) (cwV 2 hts gL_swap_X4_swap rfl rfl rfl (by decide +kernel) ⟨(Nat.le_of_ble_eq_true rfl), (Nat.le_of_ble_eq_true rfl)⟩) ⟨k_blind, k_recv hK hW (kc_0 g ad t) rfl, fun U hU hw => ⟨rfl, k_I.of hK hZ hN hS hW hU hw⟩⟩ rfl rfl hl.1 rfl (lv_room (Nat.le_of_ble_eq_true rfl)) dL_swap_5 ⟨(Nat.le_of_ble_eq_true rfl), (Nat.le_of_ble_eq_true rfl)⟩) hS hK hown (htab.trans rfl) (fun _ h9 => absurd h9 List.not_mem_nil) rfl (by decide) (hts (.classLink RL 15 "java/lang/IllegalArgumentException") (by decide +kernel)) (by decide +kernel) (fun q9 H locs hW hS => ?_)
  refine lv_astore (lv' := [(4, .ref q9), (0, .ref (ad 0 0)), (1, .int (nI j)), (2, .int z), (3, .ref (ad 24 0))]) hx hb dL_swap_13 hl (by decide) rfl (fun ls hl => ?_)
  refine lv_iconst (v := nI 1) hx hb dL_swap_15 (by decide) ?_
  exact k_riX hQ hx hb hr hlk hS hW ⟨rfl, rfl, rfl⟩ (Nat.le_of_ble_eq_true rfl) (Nat.le_of_ble_eq_true rfl) dL_swap_16
set_option maxRecDepth 100000 in
set_option maxHeartbeats 4000000 in
theorem cw_swap_b3 (l : Launch) (hlt : l.stackTraces = false) (g : k_g) (ad : k_AD) (t : k_T) (j : Nat) (hd : x_d t ≤ 360) (h1 : x_d t ≤ j) (h2 : j ≤ 364) : vx_Met l yL_swap wsL_swap rm_L_swap (va_Pc [.ref (ad 0 0), .int (nI j), .int (nI j), .ref (ad 24 0)] (k_I g (k_ct g ad t) ad)) (va_Qi (S := k_T × k_AD) (fun r u => r = nI 1 ∧ u.1 = t ∧ u.2 = ad) (fun u U => k_H g u.2 u.1 U.heap) (k_A g)) (fun _ _ _ => False) 2 12 (k_A g) := by
  refine k_metH (cc := cL_swap) (maxL := 5) (ret := (some .int)) (by decide) rfl (Nat.le_of_ble_eq_true rfl) (fun p e s m args below meth c Q ls hQ hx hb hr hml hts hown hlk htab hK hZ hN hW hS hl => ?_)
  have hown : s.vm.findClass RL = some m.cls := hown
  have hW : k_H g ad t s.heap := hW
  have hl : lv_has ls 5 [(0, .ref (ad 0 0)), (1, .int (nI j)), (2, .int (nI j)), (3, .ref (ad 24 0))] := hl
  refine lv_aload_n hx hb dL_swap_0 rfl (lv_at hl 3 rfl) ?_
  refine lv_iconst (v := nI 0) hx hb dL_swap_1 (by decide) ?_
  refine lv_aload_n hx hb dL_swap_2 rfl (lv_at hl 0 rfl) ?_
  refine lv_iload_n hx hb dL_swap_3 rfl (lv_at hl 1 rfl) ?_
  refine lv_iload_n hx hb dL_swap_4 rfl (lv_at hl 2 rfl) ?_
  refine k_xc (E0 := "java/lang/IllegalArgumentException") (pre := []) (x := ⟨0, 10, 13, 15⟩) (suf := [⟨0, 10, 17, 17⟩]) (vx_runV (As := [.int (nI j), .int (nI j)]) (rest := [.int (nI 0), .ref (ad 24 0)]) ⟨hx, hb, hml, hown, hts⟩ (c_X4_swap_b3 l hlt g ad t j hd h1 h2) (cwV 2 hts gL_swap_X4_swap rfl rfl rfl (by decide +kernel) ⟨(Nat.le_of_ble_eq_true rfl), (Nat.le_of_ble_eq_true rfl)⟩) ⟨k_blind, k_recv hK hW (kc_0 g ad t) rfl, fun U hU hw => ⟨rfl, k_I.of hK hZ hN hS hW hU hw⟩⟩ rfl rfl hl.1 rfl (lv_room (Nat.le_of_ble_eq_true rfl)) dL_swap_5 ⟨(Nat.le_of_ble_eq_true rfl), (Nat.le_of_ble_eq_true rfl)⟩) hS hK hown (htab.trans rfl) (fun _ h9 => absurd h9 List.not_mem_nil) rfl (by decide) (hts (.classLink RL 15 "java/lang/IllegalArgumentException") (by decide +kernel)) (by decide +kernel) (fun q9 H locs hW hS => ?_)
  refine lv_astore (lv' := [(4, .ref q9), (0, .ref (ad 0 0)), (1, .int (nI j)), (2, .int (nI j)), (3, .ref (ad 24 0))]) hx hb dL_swap_13 hl (by decide) rfl (fun ls hl => ?_)
  refine lv_iconst (v := nI 1) hx hb dL_swap_15 (by decide) ?_
  exact k_riX hQ hx hb hr hlk hS hW ⟨rfl, rfl, rfl⟩ (Nat.le_of_ble_eq_true rfl) (Nat.le_of_ble_eq_true rfl) dL_swap_16
set_option maxRecDepth 100000 in
set_option maxHeartbeats 4000000 in
theorem cw_swap_is (l : Launch) (hlt : l.stackTraces = false) (g : k_g) (ad : k_AD) (t : k_T) (j : Nat) (k : Nat) (hd : x_d t ≤ 360) (h1 : x_d t ≤ j) (h2 : j ≤ 364) (h3 : x_d t ≤ k) (h4 : k ≤ 364) (hne : j ≠ k) (hp : ∀ i, i < 365 → r_p t i < 5) (hno : (k_rest (k_ex (r_p t) j k) j && k_rest (k_ex (r_p t) j k) k) = false) : vx_Met l yL_swap wsL_swap rm_L_swap (va_Pc [.ref (ad 0 0), .int (nI j), .int (nI k), .ref (ad 24 0)] (k_I g (k_ct g ad t) ad)) (va_Qi (S := k_T × k_AD) (fun r u => r = nI 2 ∧ u.1 = t ∧ u.2 = ad) (fun u U => k_H g u.2 u.1 U.heap) (k_A g)) (fun _ _ _ => False) 2 12 (k_A g) := by
  refine k_metH (cc := cL_swap) (maxL := 5) (ret := (some .int)) (by decide) rfl (Nat.le_of_ble_eq_true rfl) (fun p e s m args below meth c Q ls hQ hx hb hr hml hts hown hlk htab hK hZ hN hW hS hl => ?_)
  have hown : s.vm.findClass RL = some m.cls := hown
  have hW : k_H g ad t s.heap := hW
  have hl : lv_has ls 5 [(0, .ref (ad 0 0)), (1, .int (nI j)), (2, .int (nI k)), (3, .ref (ad 24 0))] := hl
  refine lv_aload_n hx hb dL_swap_0 rfl (lv_at hl 3 rfl) ?_
  refine lv_iconst (v := nI 0) hx hb dL_swap_1 (by decide) ?_
  refine lv_aload_n hx hb dL_swap_2 rfl (lv_at hl 0 rfl) ?_
  refine lv_iload_n hx hb dL_swap_3 rfl (lv_at hl 1 rfl) ?_
  refine lv_iload_n hx hb dL_swap_4 rfl (lv_at hl 2 rfl) ?_
  refine k_xc (E0 := "java/lang/IllegalStateException") (pre := [⟨0, 10, 13, 15⟩]) (x := ⟨0, 10, 17, 17⟩) (suf := []) (vx_runV (As := [.int (nI j), .int (nI k)]) (rest := [.int (nI 0), .ref (ad 24 0)]) ⟨hx, hb, hml, hown, hts⟩ (c_X4_swap_is l hlt g ad t j k hd h1 h2 h3 h4 hne hp hno) (cwV 2 hts gL_swap_X4_swap rfl rfl rfl (by decide +kernel) ⟨(Nat.le_of_ble_eq_true rfl), (Nat.le_of_ble_eq_true rfl)⟩) ⟨k_blind, k_recv hK hW (kc_0 g ad t) rfl, fun U hU hw => ⟨rfl, k_I.of hK hZ hN hS hW hU hw⟩⟩ rfl rfl hl.1 rfl (lv_room (Nat.le_of_ble_eq_true rfl)) dL_swap_5 ⟨(Nat.le_of_ble_eq_true rfl), (Nat.le_of_ble_eq_true rfl)⟩) hS hK hown (htab.trans rfl) (List.forall_mem_cons.mpr ⟨⟨by decide, "java/lang/IllegalArgumentException", hts (.classLink RL 15 "java/lang/IllegalArgumentException") (by decide +kernel), by decide +kernel⟩, (fun _ h9 => absurd h9 List.not_mem_nil)⟩) rfl (by decide) (hts (.classLink RL 17 "java/lang/IllegalStateException") (by decide +kernel)) (by decide +kernel) (fun q9 H locs hW hS => ?_)
  refine lv_astore (lv' := [(4, .ref q9), (0, .ref (ad 0 0)), (1, .int (nI j)), (2, .int (nI k)), (3, .ref (ad 24 0))]) hx hb dL_swap_17 hl (by decide) rfl (fun ls hl => ?_)
  refine lv_iconst (v := nI 2) hx hb dL_swap_19 (by decide) ?_
  exact k_riX hQ hx hb hr hlk hS hW ⟨rfl, rfl, rfl⟩ (Nat.le_of_ble_eq_true rfl) (Nat.le_of_ble_eq_true rfl) dL_swap_20
set_option maxRecDepth 100000 in
set_option maxHeartbeats 4000000 in
theorem cw_swap_ok (l : Launch) (hlt : l.stackTraces = false) (g : k_g) (ad : k_AD) (t : k_T) (j : Nat) (k : Nat) (hd : x_d t ≤ 360) (h1 : x_d t ≤ j) (h2 : j ≤ 364) (h3 : x_d t ≤ k) (h4 : k ≤ 364) (hne : j ≠ k) (hp : ∀ i, i < 365 → r_p t i < 5) (h5 : k_rest (k_ex (r_p t) j k) j = true) (h6 : k_rest (k_ex (r_p t) j k) k = true) : vx_Met l yL_swap wsL_swap rm_L_swap (va_Pc [.ref (ad 0 0), .int (nI j), .int (nI k), .ref (ad 24 0)] (k_I g (k_ct g ad t) ad)) (va_Qi (S := k_T × k_AD) (fun r u => r = nI 0 ∧ u.1 = set_l_o (set_r_p t (k_ex (r_p t) j k)) (va_up (l_o t) 0 ((nI (k_ex (r_p t) j k j)).toInt64)) ∧ u.2 = ad) (fun u U => k_H g u.2 u.1 U.heap) (k_A g)) (fun _ _ _ => False) 2 12 (k_A g) := by
  refine k_metH (cc := cL_swap) (maxL := 5) (ret := (some .int)) (by decide) rfl (Nat.le_of_ble_eq_true rfl) (fun p e s m args below meth c Q ls hQ hx hb hr hml hts hown hlk htab hK hZ hN hW hS hl => ?_)
  have hown : s.vm.findClass RL = some m.cls := hown
  have hW : k_H g ad t s.heap := hW
  have hl : lv_has ls 5 [(0, .ref (ad 0 0)), (1, .int (nI j)), (2, .int (nI k)), (3, .ref (ad 24 0))] := hl
  refine lv_aload_n hx hb dL_swap_0 rfl (lv_at hl 3 rfl) ?_
  refine lv_iconst (v := nI 0) hx hb dL_swap_1 (by decide) ?_
  refine lv_aload_n hx hb dL_swap_2 rfl (lv_at hl 0 rfl) ?_
  refine lv_iload_n hx hb dL_swap_3 rfl (lv_at hl 1 rfl) ?_
  refine lv_iload_n hx hb dL_swap_4 rfl (lv_at hl 2 rfl) ?_
  refine k_ci (va_runV (As := [.int (nI j), .int (nI k)]) (rest := [.int (nI 0), .ref (ad 24 0)]) ⟨hx, hb, hml, hown, hts⟩ (c_X4_swap_ok l hlt g ad t j k hd h1 h2 h3 h4 hne hp h5 h6) (cwV 2 hts gL_swap_X4_swap rfl rfl rfl (by decide +kernel) ⟨(Nat.le_of_ble_eq_true rfl), (Nat.le_of_ble_eq_true rfl)⟩) ⟨k_blind, k_recv hK hW (kc_0 g ad t) rfl, fun U hU hw => ⟨rfl, k_I.of hK hZ hN hS hW hU hw⟩⟩ rfl rfl hl.1 rfl (lv_room (Nat.le_of_ble_eq_true rfl)) dL_swap_5 ⟨(Nat.le_of_ble_eq_true rfl), (Nat.le_of_ble_eq_true rfl)⟩) hS (fun r u H locs hpo hW hS => ?_)
  obtain ⟨hr9, hu9⟩ := hpo; replace hu9 := hu9.symm; subst hu9; replace hr9 := hr9.symm; subst hr9
  have hW : k_H g ad (set_r_p t (k_ex (r_p t) j k)) H := hW
  refine lv_i2l hx hb (v := (nI (k_ex (r_p t) j k j)).toInt64) dL_swap_8 rfl ?_
  refine k_last hx hb hK hW hS (kc_24 g ad (set_r_p t (k_ex (r_p t) j k))) 0 rfl (by omega) (by decide) dL_swap_9 (fun H locs hW hS => ?_)
  have hW : k_H g ad (set_l_o (set_r_p t (k_ex (r_p t) j k)) (va_up (l_o t) 0 ((nI (k_ex (r_p t) j k j)).toInt64))) H := kt_l_o (t := set_r_p t (k_ex (r_p t) j k)) 0 ((nI (k_ex (r_p t) j k j)).toInt64) hW
  refine lv_goto (tgt := 21) hx hb dL_swap_10 (by decide) ?_
  refine lv_iconst (v := nI 0) hx hb dL_swap_21 (by decide) ?_
  exact k_riX hQ hx hb hr hlk hS hW ⟨rfl, rfl, rfl⟩ (Nat.le_of_ble_eq_true rfl) (Nat.le_of_ble_eq_true rfl) dL_swap_22
abbrev rm_L_alarm : Room := { frames := 7, cells := 1, slots := 6, locals := 111 }
set_option maxRecDepth 100000 in
set_option maxHeartbeats 4000000 in
theorem cw_alarm_b (l : Launch) (hlt : l.stackTraces = false) (g : k_g) (ad : k_AD) (t : k_T) (z : Int32) (hz : z < 0 ∨ nI 31 < z) : vx_Met l yL_alarm wsL_alarm rm_L_alarm (va_Pc [.ref (ad 0 0), .int z, .ref (ad 24 0)] (k_I g (k_ct g ad t) ad)) (va_Qi (S := k_T × k_AD) (fun r u => r = nI 1 ∧ u.1 = t ∧ u.2 = ad) (fun u U => k_H g u.2 u.1 U.heap) (k_A g)) (fun _ _ _ => False) 1 6 (k_A g) := by
  refine k_metH (cc := cL_alarm) (maxL := 4) (ret := (some .int)) (by decide) rfl (Nat.le_of_ble_eq_true rfl) (fun p e s m args below meth c Q ls hQ hx hb hr hml hts hown hlk htab hK hZ hN hW hS hl => ?_)
  have hown : s.vm.findClass RL = some m.cls := hown
  have hW : k_H g ad t s.heap := hW
  have hl : lv_has ls 4 [(0, .ref (ad 0 0)), (1, .int z), (2, .ref (ad 24 0))] := hl
  refine lv_aload_n hx hb dL_alarm_0 rfl (lv_at hl 2 rfl) ?_
  refine lv_iconst (v := nI 0) hx hb dL_alarm_1 (by decide) ?_
  refine lv_aload_n hx hb dL_alarm_2 rfl (lv_at hl 0 rfl) ?_
  refine lv_iload_n hx hb dL_alarm_3 rfl (lv_at hl 1 rfl) ?_
  refine k_xc (E0 := "java/lang/IllegalArgumentException") (pre := []) (x := ⟨0, 9, 12, 15⟩) (suf := []) (vx_runV (As := [.int z]) (rest := [.int (nI 0), .ref (ad 24 0)]) ⟨hx, hb, hml, hown, hts⟩ (c_X4_alarm_b l hlt g ad t z hz) (cwV 1 hts gL_alarm_X4_alarm rfl rfl rfl (by decide +kernel) ⟨(Nat.le_of_ble_eq_true rfl), (Nat.le_of_ble_eq_true rfl)⟩) ⟨k_blind, k_recv hK hW (kc_0 g ad t) rfl, fun U hU hw => ⟨rfl, k_I.of hK hZ hN hS hW hU hw⟩⟩ rfl rfl hl.1 rfl (lv_room (Nat.le_of_ble_eq_true rfl)) dL_alarm_4 ⟨(Nat.le_of_ble_eq_true rfl), (Nat.le_of_ble_eq_true rfl)⟩) hS hK hown (htab.trans rfl) (fun _ h9 => absurd h9 List.not_mem_nil) rfl (by decide) (hts (.classLink RL 15 "java/lang/IllegalArgumentException") (by decide +kernel)) (by decide +kernel) (fun q9 H locs hW hS => ?_)
  refine lv_astore_n (lv' := [(3, .ref q9), (0, .ref (ad 0 0)), (1, .int z), (2, .ref (ad 24 0))]) hx hb dL_alarm_12 rfl hl (by decide) rfl (fun ls hl => ?_)
  refine lv_iconst (v := nI 1) hx hb dL_alarm_13 (by decide) ?_
  exact k_riX hQ hx hb hr hlk hS hW ⟨rfl, rfl, rfl⟩ (Nat.le_of_ble_eq_true rfl) (Nat.le_of_ble_eq_true rfl) dL_alarm_14
set_option maxRecDepth 100000 in
set_option maxHeartbeats 4000000 in
theorem cw_alarm_ok (l : Launch) (hlt : l.stackTraces = false) (g : k_g) (ad : k_AD) (t : k_T) (an : Nat) (han : an ≤ 31) (hd : x_d t ≤ 360) (hp : ∀ i, i < 365 → r_p t i < 5) : vx_Met l yL_alarm wsL_alarm rm_L_alarm (va_Pc [.ref (ad 0 0), .int (nI an), .ref (ad 24 0)] (k_I g (k_ct g ad t) ad)) (va_Qi (S := k_T × k_AD) (fun r u => r = nI 0 ∧ u.1 = set_l_o t (va_up (l_o t) 0 ((k_al (r_p t) an 4 (x_d t)).toInt64)) ∧ u.2 = ad) (fun u U => k_H g u.2 u.1 U.heap) (k_A g)) (fun _ _ _ => False) 1 6 (k_A g) := by
  refine k_metH (cc := cL_alarm) (maxL := 4) (ret := (some .int)) (by decide) rfl (Nat.le_of_ble_eq_true rfl) (fun p e s m args below meth c Q ls hQ hx hb hr hml hts hown hlk htab hK hZ hN hW hS hl => ?_)
  have hown : s.vm.findClass RL = some m.cls := hown
  have hW : k_H g ad t s.heap := hW
  have hl : lv_has ls 4 [(0, .ref (ad 0 0)), (1, .int (nI an)), (2, .ref (ad 24 0))] := hl
  refine lv_aload_n hx hb dL_alarm_0 rfl (lv_at hl 2 rfl) ?_
  refine lv_iconst (v := nI 0) hx hb dL_alarm_1 (by decide) ?_
  refine lv_aload_n hx hb dL_alarm_2 rfl (lv_at hl 0 rfl) ?_
  refine lv_iload_n hx hb dL_alarm_3 rfl (lv_at hl 1 rfl) ?_
  refine k_ci (va_runV (As := [.int (nI an)]) (rest := [.int (nI 0), .ref (ad 24 0)]) ⟨hx, hb, hml, hown, hts⟩ (c_X4_alarm_ok l hlt g ad t an han hd hp) (cwV 1 hts gL_alarm_X4_alarm rfl rfl rfl (by decide +kernel) ⟨(Nat.le_of_ble_eq_true rfl), (Nat.le_of_ble_eq_true rfl)⟩) ⟨k_blind, k_recv hK hW (kc_0 g ad t) rfl, fun U hU hw => ⟨rfl, k_I.of hK hZ hN hS hW hU hw⟩⟩ rfl rfl hl.1 rfl (lv_room (Nat.le_of_ble_eq_true rfl)) dL_alarm_4 ⟨(Nat.le_of_ble_eq_true rfl), (Nat.le_of_ble_eq_true rfl)⟩) hS (fun r u H locs hpo hW hS => ?_)
  obtain ⟨hr9, hu9⟩ := hpo; replace hu9 := hu9.symm; subst hu9; replace hr9 := hr9.symm; subst hr9
  refine lv_i2l hx hb (v := (k_al (r_p t) an 4 (x_d t)).toInt64) dL_alarm_7 rfl ?_
  refine k_last hx hb hK hW hS (kc_24 g ad t) 0 rfl (by omega) (by decide) dL_alarm_8 (fun H locs hW hS => ?_)
  have hW : k_H g ad (set_l_o t (va_up (l_o t) 0 ((k_al (r_p t) an 4 (x_d t)).toInt64))) H := kt_l_o (t := t) 0 ((k_al (r_p t) an 4 (x_d t)).toInt64) hW
  refine lv_goto (tgt := 15) hx hb dL_alarm_9 (by decide) ?_
  refine lv_iconst (v := nI 0) hx hb dL_alarm_15 (by decide) ?_
  exact k_riX hQ hx hb hr hlk hS hW ⟨rfl, rfl, rfl⟩ (Nat.le_of_ble_eq_true rfl) (Nat.le_of_ble_eq_true rfl) dL_alarm_16
abbrev rm_L_dayOf : Room := { frames := 8, cells := 1, slots := 6, locals := 133 }
set_option maxRecDepth 100000 in
set_option maxHeartbeats 4000000 in
theorem cw_dayOf_b (l : Launch) (hlt : l.stackTraces = false) (g : k_g) (ad : k_AD) (t : k_T) (z : Int32) (hz : z < 0 ∨ nI 60 ≤ z ∨ ∃ j, j < 60 ∧ z = nI j ∧ s_th t j = false) : vx_Met l yL_dayOf wsL_dayOf rm_L_dayOf (va_Pc [.ref (ad 0 0), .int z, .ref (ad 24 0)] (k_I g (k_ct g ad t) ad)) (va_Qi (S := k_T × k_AD) (fun r u => r = nI 1 ∧ u.1 = t ∧ u.2 = ad) (fun u U => k_H g u.2 u.1 U.heap) (k_A g)) (fun _ _ _ => False) 1 6 (k_A g) := by
  refine k_metH (cc := cL_dayOf) (maxL := 4) (ret := (some .int)) (by decide) rfl (Nat.le_of_ble_eq_true rfl) (fun p e s m args below meth c Q ls hQ hx hb hr hml hts hown hlk htab hK hZ hN hW hS hl => ?_)
  have hown : s.vm.findClass RL = some m.cls := hown
  have hW : k_H g ad t s.heap := hW
  have hl : lv_has ls 4 [(0, .ref (ad 0 0)), (1, .int z), (2, .ref (ad 24 0))] := hl
  refine lv_aload_n hx hb dL_dayOf_0 rfl (lv_at hl 2 rfl) ?_
  refine lv_iconst (v := nI 0) hx hb dL_dayOf_1 (by decide) ?_
  refine lv_aload_n hx hb dL_dayOf_2 rfl (lv_at hl 0 rfl) ?_
  refine lv_iload_n hx hb dL_dayOf_3 rfl (lv_at hl 1 rfl) ?_
  refine k_xc (E0 := "java/lang/IndexOutOfBoundsException") (pre := []) (x := ⟨0, 9, 12, 13⟩) (suf := []) (vx_runV (As := [.int z]) (rest := [.int (nI 0), .ref (ad 24 0)]) ⟨hx, hb, hml, hown, hts⟩ (c_X4_dayOf_b l hlt g ad t z hz) (cwV 1 hts gL_dayOf_X4_dayOf rfl rfl rfl (by decide +kernel) ⟨(Nat.le_of_ble_eq_true rfl), (Nat.le_of_ble_eq_true rfl)⟩) ⟨k_blind, k_recv hK hW (kc_0 g ad t) rfl, fun U hU hw => ⟨rfl, k_I.of hK hZ hN hS hW hU hw⟩⟩ rfl rfl hl.1 rfl (lv_room (Nat.le_of_ble_eq_true rfl)) dL_dayOf_4 ⟨(Nat.le_of_ble_eq_true rfl), (Nat.le_of_ble_eq_true rfl)⟩) hS hK hown (htab.trans rfl) (fun _ h9 => absurd h9 List.not_mem_nil) rfl (by decide) (hts (.classLink RL 13 "java/lang/IndexOutOfBoundsException") (by decide +kernel)) (by decide +kernel) (fun q9 H locs hW hS => ?_)
  refine lv_astore_n (lv' := [(3, .ref q9), (0, .ref (ad 0 0)), (1, .int z), (2, .ref (ad 24 0))]) hx hb dL_dayOf_12 rfl hl (by decide) rfl (fun ls hl => ?_)
  refine lv_iconst (v := nI 1) hx hb dL_dayOf_13 (by decide) ?_
  exact k_riX hQ hx hb hr hlk hS hW ⟨rfl, rfl, rfl⟩ (Nat.le_of_ble_eq_true rfl) (Nat.le_of_ble_eq_true rfl) dL_dayOf_14
set_option maxRecDepth 100000 in
set_option maxHeartbeats 4000000 in
theorem cw_dayOf_ok (l : Launch) (hlt : l.stackTraces = false) (g : k_g) (ad : k_AD) (t : k_T) (j : Nat) (hj : j < 60) (hs : s_th t j = true) (hwf : ∀ j, s_th t j = true → j < o_n t) : vx_Met l yL_dayOf wsL_dayOf rm_L_dayOf (va_Pc [.ref (ad 0 0), .int (nI j), .ref (ad 24 0)] (k_I g (k_ct g ad t) ad)) (va_Qi (S := k_T × k_AD) (fun r u => r = nI 0 ∧ u.1 = set_l_o t (va_up (l_o t) 0 ((nI (o_on t j)).toInt64)) ∧ u.2 = ad) (fun u U => k_H g u.2 u.1 U.heap) (k_A g)) (fun _ _ _ => False) 1 6 (k_A g) := by
  refine k_metH (cc := cL_dayOf) (maxL := 4) (ret := (some .int)) (by decide) rfl (Nat.le_of_ble_eq_true rfl) (fun p e s m args below meth c Q ls hQ hx hb hr hml hts hown hlk htab hK hZ hN hW hS hl => ?_)
  have hown : s.vm.findClass RL = some m.cls := hown
  have hW : k_H g ad t s.heap := hW
  have hl : lv_has ls 4 [(0, .ref (ad 0 0)), (1, .int (nI j)), (2, .ref (ad 24 0))] := hl
  refine lv_aload_n hx hb dL_dayOf_0 rfl (lv_at hl 2 rfl) ?_
  refine lv_iconst (v := nI 0) hx hb dL_dayOf_1 (by decide) ?_
  refine lv_aload_n hx hb dL_dayOf_2 rfl (lv_at hl 0 rfl) ?_
  refine lv_iload_n hx hb dL_dayOf_3 rfl (lv_at hl 1 rfl) ?_
  refine k_ci (va_runV (As := [.int (nI j)]) (rest := [.int (nI 0), .ref (ad 24 0)]) ⟨hx, hb, hml, hown, hts⟩ (c_X4_dayOf_ok l hlt g ad t j hj hs hwf) (cwV 1 hts gL_dayOf_X4_dayOf rfl rfl rfl (by decide +kernel) ⟨(Nat.le_of_ble_eq_true rfl), (Nat.le_of_ble_eq_true rfl)⟩) ⟨k_blind, k_recv hK hW (kc_0 g ad t) rfl, fun U hU hw => ⟨rfl, k_I.of hK hZ hN hS hW hU hw⟩⟩ rfl rfl hl.1 rfl (lv_room (Nat.le_of_ble_eq_true rfl)) dL_dayOf_4 ⟨(Nat.le_of_ble_eq_true rfl), (Nat.le_of_ble_eq_true rfl)⟩) hS (fun r u H locs hpo hW hS => ?_)
  obtain ⟨hr9, hu9⟩ := hpo; replace hu9 := hu9.symm; subst hu9; replace hr9 := hr9.symm; subst hr9
  refine lv_i2l hx hb (v := (nI (o_on t j)).toInt64) dL_dayOf_7 rfl ?_
  refine k_last hx hb hK hW hS (kc_24 g ad t) 0 rfl (by omega) (by decide) dL_dayOf_8 (fun H locs hW hS => ?_)
  have hW : k_H g ad (set_l_o t (va_up (l_o t) 0 ((nI (o_on t j)).toInt64))) H := kt_l_o (t := t) 0 ((nI (o_on t j)).toInt64) hW
  refine lv_goto (tgt := 15) hx hb dL_dayOf_9 (by decide) ?_
  refine lv_iconst (v := nI 0) hx hb dL_dayOf_15 (by decide) ?_
  exact k_riX hQ hx hb hr hlk hS hW ⟨rfl, rfl, rfl⟩ (Nat.le_of_ble_eq_true rfl) (Nat.le_of_ble_eq_true rfl) dL_dayOf_16
abbrev rm_L_baseOf : Room := { frames := 8, cells := 1, slots := 6, locals := 134 }
set_option maxRecDepth 100000 in
set_option maxHeartbeats 4000000 in
theorem cw_baseOf_b (l : Launch) (hlt : l.stackTraces = false) (g : k_g) (ad : k_AD) (t : k_T) (z : Int32) (hz : z < 0 ∨ nI 60 ≤ z ∨ ∃ j, j < 60 ∧ z = nI j ∧ s_th t j = false) : vx_Met l yL_baseOf wsL_baseOf rm_L_baseOf (va_Pc [.ref (ad 0 0), .int z, .ref (ad 24 0)] (k_I g (k_ct g ad t) ad)) (va_Qi (S := k_T × k_AD) (fun r u => r = nI 1 ∧ u.1 = t ∧ u.2 = ad) (fun u U => k_H g u.2 u.1 U.heap) (k_A g)) (fun _ _ _ => False) 1 6 (k_A g) := by
  refine k_metH (cc := cL_baseOf) (maxL := 4) (ret := (some .int)) (by decide) rfl (Nat.le_of_ble_eq_true rfl) (fun p e s m args below meth c Q ls hQ hx hb hr hml hts hown hlk htab hK hZ hN hW hS hl => ?_)
  have hown : s.vm.findClass RL = some m.cls := hown
  have hW : k_H g ad t s.heap := hW
  have hl : lv_has ls 4 [(0, .ref (ad 0 0)), (1, .int z), (2, .ref (ad 24 0))] := hl
  refine lv_aload_n hx hb dL_baseOf_0 rfl (lv_at hl 2 rfl) ?_
  refine lv_iconst (v := nI 0) hx hb dL_baseOf_1 (by decide) ?_
  refine lv_aload_n hx hb dL_baseOf_2 rfl (lv_at hl 0 rfl) ?_
  refine lv_iload_n hx hb dL_baseOf_3 rfl (lv_at hl 1 rfl) ?_
  refine k_xc (E0 := "java/lang/IndexOutOfBoundsException") (pre := []) (x := ⟨0, 9, 12, 13⟩) (suf := []) (vx_runV (As := [.int z]) (rest := [.int (nI 0), .ref (ad 24 0)]) ⟨hx, hb, hml, hown, hts⟩ (c_X4_baseOf_b l hlt g ad t z hz) (cwV 1 hts gL_baseOf_X4_baseOf rfl rfl rfl (by decide +kernel) ⟨(Nat.le_of_ble_eq_true rfl), (Nat.le_of_ble_eq_true rfl)⟩) ⟨k_blind, k_recv hK hW (kc_0 g ad t) rfl, fun U hU hw => ⟨rfl, k_I.of hK hZ hN hS hW hU hw⟩⟩ rfl rfl hl.1 rfl (lv_room (Nat.le_of_ble_eq_true rfl)) dL_baseOf_4 ⟨(Nat.le_of_ble_eq_true rfl), (Nat.le_of_ble_eq_true rfl)⟩) hS hK hown (htab.trans rfl) (fun _ h9 => absurd h9 List.not_mem_nil) rfl (by decide) (hts (.classLink RL 13 "java/lang/IndexOutOfBoundsException") (by decide +kernel)) (by decide +kernel) (fun q9 H locs hW hS => ?_)
  refine lv_astore_n (lv' := [(3, .ref q9), (0, .ref (ad 0 0)), (1, .int z), (2, .ref (ad 24 0))]) hx hb dL_baseOf_12 rfl hl (by decide) rfl (fun ls hl => ?_)
  refine lv_iconst (v := nI 1) hx hb dL_baseOf_13 (by decide) ?_
  exact k_riX hQ hx hb hr hlk hS hW ⟨rfl, rfl, rfl⟩ (Nat.le_of_ble_eq_true rfl) (Nat.le_of_ble_eq_true rfl) dL_baseOf_14
set_option maxRecDepth 100000 in
set_option maxHeartbeats 4000000 in
theorem cw_baseOf_ok (l : Launch) (hlt : l.stackTraces = false) (g : k_g) (ad : k_AD) (t : k_T) (j : Nat) (hj : j < 60) (hs : s_th t j = true) (hwf : ∀ j, s_th t j = true → j < o_n t) (hbs : ∀ k b, k < o_n t → o_b t k = some b → b < o_n t ∧ b < k) : vx_Met l yL_baseOf wsL_baseOf rm_L_baseOf (va_Pc [.ref (ad 0 0), .int (nI j), .ref (ad 24 0)] (k_I g (k_ct g ad t) ad)) (va_Qi (S := k_T × k_AD) (fun r u => r = nI 0 ∧ u.1 = set_l_o t (va_up (l_o t) 0 ((kO (o_b t j)).toInt64)) ∧ u.2 = ad) (fun u U => k_H g u.2 u.1 U.heap) (k_A g)) (fun _ _ _ => False) 1 6 (k_A g) := by
  refine k_metH (cc := cL_baseOf) (maxL := 4) (ret := (some .int)) (by decide) rfl (Nat.le_of_ble_eq_true rfl) (fun p e s m args below meth c Q ls hQ hx hb hr hml hts hown hlk htab hK hZ hN hW hS hl => ?_)
  have hown : s.vm.findClass RL = some m.cls := hown
  have hW : k_H g ad t s.heap := hW
  have hl : lv_has ls 4 [(0, .ref (ad 0 0)), (1, .int (nI j)), (2, .ref (ad 24 0))] := hl
  refine lv_aload_n hx hb dL_baseOf_0 rfl (lv_at hl 2 rfl) ?_
  refine lv_iconst (v := nI 0) hx hb dL_baseOf_1 (by decide) ?_
  refine lv_aload_n hx hb dL_baseOf_2 rfl (lv_at hl 0 rfl) ?_
  refine lv_iload_n hx hb dL_baseOf_3 rfl (lv_at hl 1 rfl) ?_
  refine k_ci (va_runV (As := [.int (nI j)]) (rest := [.int (nI 0), .ref (ad 24 0)]) ⟨hx, hb, hml, hown, hts⟩ (c_X4_baseOf_ok l hlt g ad t j hj hs hwf hbs) (cwV 1 hts gL_baseOf_X4_baseOf rfl rfl rfl (by decide +kernel) ⟨(Nat.le_of_ble_eq_true rfl), (Nat.le_of_ble_eq_true rfl)⟩) ⟨k_blind, k_recv hK hW (kc_0 g ad t) rfl, fun U hU hw => ⟨rfl, k_I.of hK hZ hN hS hW hU hw⟩⟩ rfl rfl hl.1 rfl (lv_room (Nat.le_of_ble_eq_true rfl)) dL_baseOf_4 ⟨(Nat.le_of_ble_eq_true rfl), (Nat.le_of_ble_eq_true rfl)⟩) hS (fun r u H locs hpo hW hS => ?_)
  obtain ⟨hr9, hu9⟩ := hpo; replace hu9 := hu9.symm; subst hu9; replace hr9 := hr9.symm; subst hr9
  refine lv_i2l hx hb (v := (kO (o_b t j)).toInt64) dL_baseOf_7 rfl ?_
  refine k_last hx hb hK hW hS (kc_24 g ad t) 0 rfl (by omega) (by decide) dL_baseOf_8 (fun H locs hW hS => ?_)
  have hW : k_H g ad (set_l_o t (va_up (l_o t) 0 ((kO (o_b t j)).toInt64))) H := kt_l_o (t := t) 0 ((kO (o_b t j)).toInt64) hW
  refine lv_goto (tgt := 15) hx hb dL_baseOf_9 (by decide) ?_
  refine lv_iconst (v := nI 0) hx hb dL_baseOf_15 (by decide) ?_
  exact k_riX hQ hx hb hr hlk hS hW ⟨rfl, rfl, rfl⟩ (Nat.le_of_ble_eq_true rfl) (Nat.le_of_ble_eq_true rfl) dL_baseOf_16
abbrev rm_L_keeps : Room := { frames := 8, cells := 1, slots := 6, locals := 133 }
set_option maxRecDepth 100000 in
set_option maxHeartbeats 4000000 in
theorem cw_keeps_b (l : Launch) (hlt : l.stackTraces = false) (g : k_g) (ad : k_AD) (t : k_T) (z : Int32) (hz : z < 0 ∨ nI 60 ≤ z ∨ ∃ j, j < 60 ∧ z = nI j ∧ s_th t j = false) : vx_Met l yL_keeps wsL_keeps rm_L_keeps (va_Pc [.ref (ad 0 0), .int z, .ref (ad 24 0)] (k_I g (k_ct g ad t) ad)) (va_Qi (S := k_T × k_AD) (fun r u => r = nI 1 ∧ u.1 = t ∧ u.2 = ad) (fun u U => k_H g u.2 u.1 U.heap) (k_A g)) (fun _ _ _ => False) 1 6 (k_A g) := by
  refine k_metH (cc := cL_keeps) (maxL := 4) (ret := (some .int)) (by decide) rfl (Nat.le_of_ble_eq_true rfl) (fun p e s m args below meth c Q ls hQ hx hb hr hml hts hown hlk htab hK hZ hN hW hS hl => ?_)
  have hown : s.vm.findClass RL = some m.cls := hown
  have hW : k_H g ad t s.heap := hW
  have hl : lv_has ls 4 [(0, .ref (ad 0 0)), (1, .int z), (2, .ref (ad 24 0))] := hl
  refine lv_aload_n hx hb dL_keeps_0 rfl (lv_at hl 2 rfl) ?_
  refine lv_iconst (v := nI 0) hx hb dL_keeps_1 (by decide) ?_
  refine lv_aload_n hx hb dL_keeps_2 rfl (lv_at hl 0 rfl) ?_
  refine lv_iload_n hx hb dL_keeps_3 rfl (lv_at hl 1 rfl) ?_
  refine k_xc (E0 := "java/lang/IndexOutOfBoundsException") (pre := []) (x := ⟨0, 9, 12, 13⟩) (suf := []) (vx_runV (As := [.int z]) (rest := [.int (nI 0), .ref (ad 24 0)]) ⟨hx, hb, hml, hown, hts⟩ (c_X4_keeps_b l hlt g ad t z hz) (cwV 1 hts gL_keeps_X4_keeps rfl rfl rfl (by decide +kernel) ⟨(Nat.le_of_ble_eq_true rfl), (Nat.le_of_ble_eq_true rfl)⟩) ⟨k_blind, k_recv hK hW (kc_0 g ad t) rfl, fun U hU hw => ⟨rfl, k_I.of hK hZ hN hS hW hU hw⟩⟩ rfl rfl hl.1 rfl (lv_room (Nat.le_of_ble_eq_true rfl)) dL_keeps_4 ⟨(Nat.le_of_ble_eq_true rfl), (Nat.le_of_ble_eq_true rfl)⟩) hS hK hown (htab.trans rfl) (fun _ h9 => absurd h9 List.not_mem_nil) rfl (by decide) (hts (.classLink RL 13 "java/lang/IndexOutOfBoundsException") (by decide +kernel)) (by decide +kernel) (fun q9 H locs hW hS => ?_)
  refine lv_astore_n (lv' := [(3, .ref q9), (0, .ref (ad 0 0)), (1, .int z), (2, .ref (ad 24 0))]) hx hb dL_keeps_12 rfl hl (by decide) rfl (fun ls hl => ?_)
  refine lv_iconst (v := nI 1) hx hb dL_keeps_13 (by decide) ?_
  exact k_riX hQ hx hb hr hlk hS hW ⟨rfl, rfl, rfl⟩ (Nat.le_of_ble_eq_true rfl) (Nat.le_of_ble_eq_true rfl) dL_keeps_14
set_option maxRecDepth 100000 in
set_option maxHeartbeats 4000000 in
theorem cw_keeps_ok (l : Launch) (hlt : l.stackTraces = false) (g : k_g) (ad : k_AD) (t : k_T) (j : Nat) (hj : j < 60) (hs : s_th t j = true) (hwf : ∀ j, s_th t j = true → j < o_n t) : vx_Met l yL_keeps wsL_keeps rm_L_keeps (va_Pc [.ref (ad 0 0), .int (nI j), .ref (ad 24 0)] (k_I g (k_ct g ad t) ad)) (va_Qi (S := k_T × k_AD) (fun r u => r = nI 0 ∧ u.1 = set_l_o t (va_up (l_o t) 0 ((nI (o_kc t j)).toInt64)) ∧ u.2 = ad) (fun u U => k_H g u.2 u.1 U.heap) (k_A g)) (fun _ _ _ => False) 1 6 (k_A g) := by
  refine k_metH (cc := cL_keeps) (maxL := 4) (ret := (some .int)) (by decide) rfl (Nat.le_of_ble_eq_true rfl) (fun p e s m args below meth c Q ls hQ hx hb hr hml hts hown hlk htab hK hZ hN hW hS hl => ?_)
  have hown : s.vm.findClass RL = some m.cls := hown
  have hW : k_H g ad t s.heap := hW
  have hl : lv_has ls 4 [(0, .ref (ad 0 0)), (1, .int (nI j)), (2, .ref (ad 24 0))] := hl
  refine lv_aload_n hx hb dL_keeps_0 rfl (lv_at hl 2 rfl) ?_
  refine lv_iconst (v := nI 0) hx hb dL_keeps_1 (by decide) ?_
  refine lv_aload_n hx hb dL_keeps_2 rfl (lv_at hl 0 rfl) ?_
  refine lv_iload_n hx hb dL_keeps_3 rfl (lv_at hl 1 rfl) ?_
  refine k_ci (va_runV (As := [.int (nI j)]) (rest := [.int (nI 0), .ref (ad 24 0)]) ⟨hx, hb, hml, hown, hts⟩ (c_X4_keeps_ok l hlt g ad t j hj hs hwf) (cwV 1 hts gL_keeps_X4_keeps rfl rfl rfl (by decide +kernel) ⟨(Nat.le_of_ble_eq_true rfl), (Nat.le_of_ble_eq_true rfl)⟩) ⟨k_blind, k_recv hK hW (kc_0 g ad t) rfl, fun U hU hw => ⟨rfl, k_I.of hK hZ hN hS hW hU hw⟩⟩ rfl rfl hl.1 rfl (lv_room (Nat.le_of_ble_eq_true rfl)) dL_keeps_4 ⟨(Nat.le_of_ble_eq_true rfl), (Nat.le_of_ble_eq_true rfl)⟩) hS (fun r u H locs hpo hW hS => ?_)
  obtain ⟨hr9, hu9⟩ := hpo; replace hu9 := hu9.symm; subst hu9; replace hr9 := hr9.symm; subst hr9
  refine lv_i2l hx hb (v := (nI (o_kc t j)).toInt64) dL_keeps_7 rfl ?_
  refine k_last hx hb hK hW hS (kc_24 g ad t) 0 rfl (by omega) (by decide) dL_keeps_8 (fun H locs hW hS => ?_)
  have hW : k_H g ad (set_l_o t (va_up (l_o t) 0 ((nI (o_kc t j)).toInt64))) H := kt_l_o (t := t) 0 ((nI (o_kc t j)).toInt64) hW
  refine lv_goto (tgt := 15) hx hb dL_keeps_9 (by decide) ?_
  refine lv_iconst (v := nI 0) hx hb dL_keeps_15 (by decide) ?_
  exact k_riX hQ hx hb hr hlk hS hW ⟨rfl, rfl, rfl⟩ (Nat.le_of_ble_eq_true rfl) (Nat.le_of_ble_eq_true rfl) dL_keeps_16
abbrev rm_L_isPromised : Room := { frames := 8, cells := 1, slots := 6, locals := 134 }
set_option maxRecDepth 100000 in
set_option maxHeartbeats 4000000 in
theorem cw_isPromised_b (l : Launch) (hlt : l.stackTraces = false) (g : k_g) (ad : k_AD) (t : k_T) (z : Int32) (hz : z < 0 ∨ nI 60 ≤ z ∨ ∃ j, j < 60 ∧ z = nI j ∧ s_th t j = false) : vx_Met l yL_isPromised wsL_isPromised rm_L_isPromised (va_Pc [.ref (ad 0 0), .int z, .ref (ad 24 0)] (k_I g (k_ct g ad t) ad)) (va_Qi (S := k_T × k_AD) (fun r u => r = nI 1 ∧ u.1 = t ∧ u.2 = ad) (fun u U => k_H g u.2 u.1 U.heap) (k_A g)) (fun _ _ _ => False) 1 6 (k_A g) := by
  refine k_metH (cc := cL_isPromised) (maxL := 4) (ret := (some .int)) (by decide) rfl (Nat.le_of_ble_eq_true rfl) (fun p e s m args below meth c Q ls hQ hx hb hr hml hts hown hlk htab hK hZ hN hW hS hl => ?_)
  have hown : s.vm.findClass RL = some m.cls := hown
  have hW : k_H g ad t s.heap := hW
  have hl : lv_has ls 4 [(0, .ref (ad 0 0)), (1, .int z), (2, .ref (ad 24 0))] := hl
  refine lv_aload_n hx hb dL_isPromised_0 rfl (lv_at hl 2 rfl) ?_
  refine lv_iconst (v := nI 0) hx hb dL_isPromised_1 (by decide) ?_
  refine lv_aload_n hx hb dL_isPromised_2 rfl (lv_at hl 0 rfl) ?_
  refine lv_iload_n hx hb dL_isPromised_3 rfl (lv_at hl 1 rfl) ?_
  refine k_xc (E0 := "java/lang/IndexOutOfBoundsException") (pre := []) (x := ⟨0, 16, 19, 13⟩) (suf := []) (vx_runV (As := [.int z]) (rest := [.int (nI 0), .ref (ad 24 0)]) ⟨hx, hb, hml, hown, hts⟩ (c_X4_isPromised_b l hlt g ad t z hz) (cwV 1 hts gL_isPromised_X4_isPromised rfl rfl rfl (by decide +kernel) ⟨(Nat.le_of_ble_eq_true rfl), (Nat.le_of_ble_eq_true rfl)⟩) ⟨k_blind, k_recv hK hW (kc_0 g ad t) rfl, fun U hU hw => ⟨rfl, k_I.of hK hZ hN hS hW hU hw⟩⟩ rfl rfl hl.1 rfl (lv_room (Nat.le_of_ble_eq_true rfl)) dL_isPromised_4 ⟨(Nat.le_of_ble_eq_true rfl), (Nat.le_of_ble_eq_true rfl)⟩) hS hK hown (htab.trans rfl) (fun _ h9 => absurd h9 List.not_mem_nil) rfl (by decide) (hts (.classLink RL 13 "java/lang/IndexOutOfBoundsException") (by decide +kernel)) (by decide +kernel) (fun q9 H locs hW hS => ?_)
  refine lv_astore_n (lv' := [(3, .ref q9), (0, .ref (ad 0 0)), (1, .int z), (2, .ref (ad 24 0))]) hx hb dL_isPromised_19 rfl hl (by decide) rfl (fun ls hl => ?_)
  refine lv_iconst (v := nI 1) hx hb dL_isPromised_20 (by decide) ?_
  exact k_riX hQ hx hb hr hlk hS hW ⟨rfl, rfl, rfl⟩ (Nat.le_of_ble_eq_true rfl) (Nat.le_of_ble_eq_true rfl) dL_isPromised_21
set_option maxRecDepth 100000 in
set_option maxHeartbeats 4000000 in
theorem cw_isPromised_ok (l : Launch) (hlt : l.stackTraces = false) (g : k_g) (ad : k_AD) (t : k_T) (j : Nat) (hj : j < 60) (hs : s_th t j = true) (hwf : ∀ j, s_th t j = true → j < o_n t) (hbs : ∀ k b, k < o_n t → o_b t k = some b → b < o_n t ∧ b < k) (hth : ∀ j b, s_th t j = true → o_b t j = some b → s_th t b = true) (hn60 : o_n t ≤ 60) (hon : ∀ j, j < o_n t → o_on t j ≤ 360) (hr1 : s_r1 t ≤ 30) (hr2 : s_r2 t ≤ 30) (hr3 : s_r3 t ≤ 30) : vx_Met l yL_isPromised wsL_isPromised rm_L_isPromised (va_Pc [.ref (ad 0 0), .int (nI j), .ref (ad 24 0)] (k_I g (k_ct g ad t) ad)) (va_Qi (S := k_T × k_AD) (fun r u => r = nI 0 ∧ u.1 = set_l_o (set_o_nd (set_o_pm t (k_Pm (s_th t) (o_pm t) (o_on t) (s_r1 t) (s_r2 t) (s_r3 t))) (k_Nm (s_th t) (o_nd t) (k_Pm (s_th t) (o_pm t) (o_on t) (s_r1 t) (s_r2 t) (s_r3 t)) (o_b t))) (va_up (l_o t) 0 (k_bl ((k_Pm (s_th t) (o_pm t) (o_on t) (s_r1 t) (s_r2 t) (s_r3 t)) j))) ∧ u.2 = ad) (fun u U => k_H g u.2 u.1 U.heap) (k_A g)) (fun _ _ _ => False) 1 6 (k_A g) := by
  refine k_metH (cc := cL_isPromised) (maxL := 4) (ret := (some .int)) (by decide) rfl (Nat.le_of_ble_eq_true rfl) (fun p e s m args below meth c Q ls hQ hx hb hr hml hts hown hlk htab hK hZ hN hW hS hl => ?_)
  have hown : s.vm.findClass RL = some m.cls := hown
  have hW : k_H g ad t s.heap := hW
  have hl : lv_has ls 4 [(0, .ref (ad 0 0)), (1, .int (nI j)), (2, .ref (ad 24 0))] := hl
  refine lv_aload_n hx hb dL_isPromised_0 rfl (lv_at hl 2 rfl) ?_
  refine lv_iconst (v := nI 0) hx hb dL_isPromised_1 (by decide) ?_
  refine lv_aload_n hx hb dL_isPromised_2 rfl (lv_at hl 0 rfl) ?_
  refine lv_iload_n hx hb dL_isPromised_3 rfl (lv_at hl 1 rfl) ?_
  refine k_ci (va_runV (As := [.int (nI j)]) (rest := [.int (nI 0), .ref (ad 24 0)]) ⟨hx, hb, hml, hown, hts⟩ (c_X4_isPromised_ok l hlt g ad t j hj hs hwf hbs hth hn60 hon hr1 hr2 hr3) (cwV 1 hts gL_isPromised_X4_isPromised rfl rfl rfl (by decide +kernel) ⟨(Nat.le_of_ble_eq_true rfl), (Nat.le_of_ble_eq_true rfl)⟩) ⟨k_blind, k_recv hK hW (kc_0 g ad t) rfl, fun U hU hw => ⟨rfl, k_I.of hK hZ hN hS hW hU hw⟩⟩ rfl rfl hl.1 rfl (lv_room (Nat.le_of_ble_eq_true rfl)) dL_isPromised_4 ⟨(Nat.le_of_ble_eq_true rfl), (Nat.le_of_ble_eq_true rfl)⟩) hS (fun r u H locs hpo hW hS => ?_)
  obtain ⟨hr9, hu9⟩ := hpo; replace hu9 := hu9.symm; subst hu9; replace hr9 := hr9.symm; subst hr9
  have hW : k_H g ad (set_o_nd (set_o_pm t (k_Pm (s_th t) (o_pm t) (o_on t) (s_r1 t) (s_r2 t) (s_r3 t))) (k_Nm (s_th t) (o_nd t) (k_Pm (s_th t) (o_pm t) (o_on t) (s_r1 t) (s_r2 t) (s_r3 t)) (o_b t))) H := hW
  refine k_ifz_eq (tgt := 14) hx hb dL_isPromised_7 (by decide) (fun h_7 => ?_) (fun h_7 => ?_)
  · refine lv_lconst (v := 0) hx hb dL_isPromised_14 (by decide) ?_
    refine k_last hx hb hK hW hS (kc_24 g ad (set_o_nd (set_o_pm t (k_Pm (s_th t) (o_pm t) (o_on t) (s_r1 t) (s_r2 t) (s_r3 t))) (k_Nm (s_th t) (o_nd t) (k_Pm (s_th t) (o_pm t) (o_on t) (s_r1 t) (s_r2 t) (s_r3 t)) (o_b t)))) 0 rfl (by omega) (by decide) dL_isPromised_15 (fun H locs hW hS => ?_)
    have hW : k_H g ad (set_l_o (set_o_nd (set_o_pm t (k_Pm (s_th t) (o_pm t) (o_on t) (s_r1 t) (s_r2 t) (s_r3 t))) (k_Nm (s_th t) (o_nd t) (k_Pm (s_th t) (o_pm t) (o_on t) (s_r1 t) (s_r2 t) (s_r3 t)) (o_b t))) (va_up (l_o t) 0 0)) H := kt_l_o (t := set_o_nd (set_o_pm t (k_Pm (s_th t) (o_pm t) (o_on t) (s_r1 t) (s_r2 t) (s_r3 t))) (k_Nm (s_th t) (o_nd t) (k_Pm (s_th t) (o_pm t) (o_on t) (s_r1 t) (s_r2 t) (s_r3 t)) (o_b t))) 0 0 hW
    refine lv_goto (tgt := 22) hx hb dL_isPromised_16 (by decide) ?_
    refine lv_iconst (v := nI 0) hx hb dL_isPromised_22 (by decide) ?_
    exact k_riX hQ hx hb hr hlk hS hW ⟨rfl, by rw [h_7]; rfl, rfl⟩ (Nat.le_of_ble_eq_true rfl) (Nat.le_of_ble_eq_true rfl) dL_isPromised_23
  · refine lv_lconst (v := 1) hx hb dL_isPromised_10 (by decide) ?_
    refine lv_goto (tgt := 15) hx hb dL_isPromised_11 (by decide) ?_
    refine k_last hx hb hK hW hS (kc_24 g ad (set_o_nd (set_o_pm t (k_Pm (s_th t) (o_pm t) (o_on t) (s_r1 t) (s_r2 t) (s_r3 t))) (k_Nm (s_th t) (o_nd t) (k_Pm (s_th t) (o_pm t) (o_on t) (s_r1 t) (s_r2 t) (s_r3 t)) (o_b t)))) 0 rfl (by omega) (by decide) dL_isPromised_15 (fun H locs hW hS => ?_)
    have hW : k_H g ad (set_l_o (set_o_nd (set_o_pm t (k_Pm (s_th t) (o_pm t) (o_on t) (s_r1 t) (s_r2 t) (s_r3 t))) (k_Nm (s_th t) (o_nd t) (k_Pm (s_th t) (o_pm t) (o_on t) (s_r1 t) (s_r2 t) (s_r3 t)) (o_b t))) (va_up (l_o t) 0 1)) H := kt_l_o (t := set_o_nd (set_o_pm t (k_Pm (s_th t) (o_pm t) (o_on t) (s_r1 t) (s_r2 t) (s_r3 t))) (k_Nm (s_th t) (o_nd t) (k_Pm (s_th t) (o_pm t) (o_on t) (s_r1 t) (s_r2 t) (s_r3 t)) (o_b t))) 0 1 hW
    refine lv_goto (tgt := 22) hx hb dL_isPromised_16 (by decide) ?_
    refine lv_iconst (v := nI 0) hx hb dL_isPromised_22 (by decide) ?_
    exact k_riX hQ hx hb hr hlk hS hW ⟨rfl, by rw [h_7]; rfl, rfl⟩ (Nat.le_of_ble_eq_true rfl) (Nat.le_of_ble_eq_true rfl) dL_isPromised_23
abbrev rm_L_isNeeded : Room := { frames := 8, cells := 1, slots := 6, locals := 134 }
set_option maxRecDepth 100000 in
set_option maxHeartbeats 4000000 in
theorem cw_isNeeded_b (l : Launch) (hlt : l.stackTraces = false) (g : k_g) (ad : k_AD) (t : k_T) (z : Int32) (hz : z < 0 ∨ nI 60 ≤ z ∨ ∃ j, j < 60 ∧ z = nI j ∧ s_th t j = false) : vx_Met l yL_isNeeded wsL_isNeeded rm_L_isNeeded (va_Pc [.ref (ad 0 0), .int z, .ref (ad 24 0)] (k_I g (k_ct g ad t) ad)) (va_Qi (S := k_T × k_AD) (fun r u => r = nI 1 ∧ u.1 = t ∧ u.2 = ad) (fun u U => k_H g u.2 u.1 U.heap) (k_A g)) (fun _ _ _ => False) 1 6 (k_A g) := by
  refine k_metH (cc := cL_isNeeded) (maxL := 4) (ret := (some .int)) (by decide) rfl (Nat.le_of_ble_eq_true rfl) (fun p e s m args below meth c Q ls hQ hx hb hr hml hts hown hlk htab hK hZ hN hW hS hl => ?_)
  have hown : s.vm.findClass RL = some m.cls := hown
  have hW : k_H g ad t s.heap := hW
  have hl : lv_has ls 4 [(0, .ref (ad 0 0)), (1, .int z), (2, .ref (ad 24 0))] := hl
  refine lv_aload_n hx hb dL_isNeeded_0 rfl (lv_at hl 2 rfl) ?_
  refine lv_iconst (v := nI 0) hx hb dL_isNeeded_1 (by decide) ?_
  refine lv_aload_n hx hb dL_isNeeded_2 rfl (lv_at hl 0 rfl) ?_
  refine lv_iload_n hx hb dL_isNeeded_3 rfl (lv_at hl 1 rfl) ?_
  refine k_xc (E0 := "java/lang/IndexOutOfBoundsException") (pre := []) (x := ⟨0, 16, 19, 13⟩) (suf := []) (vx_runV (As := [.int z]) (rest := [.int (nI 0), .ref (ad 24 0)]) ⟨hx, hb, hml, hown, hts⟩ (c_X4_isNeeded_b l hlt g ad t z hz) (cwV 1 hts gL_isNeeded_X4_isNeeded rfl rfl rfl (by decide +kernel) ⟨(Nat.le_of_ble_eq_true rfl), (Nat.le_of_ble_eq_true rfl)⟩) ⟨k_blind, k_recv hK hW (kc_0 g ad t) rfl, fun U hU hw => ⟨rfl, k_I.of hK hZ hN hS hW hU hw⟩⟩ rfl rfl hl.1 rfl (lv_room (Nat.le_of_ble_eq_true rfl)) dL_isNeeded_4 ⟨(Nat.le_of_ble_eq_true rfl), (Nat.le_of_ble_eq_true rfl)⟩) hS hK hown (htab.trans rfl) (fun _ h9 => absurd h9 List.not_mem_nil) rfl (by decide) (hts (.classLink RL 13 "java/lang/IndexOutOfBoundsException") (by decide +kernel)) (by decide +kernel) (fun q9 H locs hW hS => ?_)
  refine lv_astore_n (lv' := [(3, .ref q9), (0, .ref (ad 0 0)), (1, .int z), (2, .ref (ad 24 0))]) hx hb dL_isNeeded_19 rfl hl (by decide) rfl (fun ls hl => ?_)
  refine lv_iconst (v := nI 1) hx hb dL_isNeeded_20 (by decide) ?_
  exact k_riX hQ hx hb hr hlk hS hW ⟨rfl, rfl, rfl⟩ (Nat.le_of_ble_eq_true rfl) (Nat.le_of_ble_eq_true rfl) dL_isNeeded_21
set_option maxRecDepth 100000 in
set_option maxHeartbeats 4000000 in
theorem cw_isNeeded_ok (l : Launch) (hlt : l.stackTraces = false) (g : k_g) (ad : k_AD) (t : k_T) (j : Nat) (hj : j < 60) (hs : s_th t j = true) (hwf : ∀ j, s_th t j = true → j < o_n t) (hbs : ∀ k b, k < o_n t → o_b t k = some b → b < o_n t ∧ b < k) (hth : ∀ j b, s_th t j = true → o_b t j = some b → s_th t b = true) (hn60 : o_n t ≤ 60) (hon : ∀ j, j < o_n t → o_on t j ≤ 360) (hr1 : s_r1 t ≤ 30) (hr2 : s_r2 t ≤ 30) (hr3 : s_r3 t ≤ 30) : vx_Met l yL_isNeeded wsL_isNeeded rm_L_isNeeded (va_Pc [.ref (ad 0 0), .int (nI j), .ref (ad 24 0)] (k_I g (k_ct g ad t) ad)) (va_Qi (S := k_T × k_AD) (fun r u => r = nI 0 ∧ u.1 = set_l_o (set_o_nd (set_o_pm t (k_Pm (s_th t) (o_pm t) (o_on t) (s_r1 t) (s_r2 t) (s_r3 t))) (k_Nm (s_th t) (o_nd t) (k_Pm (s_th t) (o_pm t) (o_on t) (s_r1 t) (s_r2 t) (s_r3 t)) (o_b t))) (va_up (l_o t) 0 (k_bl ((k_Nm (s_th t) (o_nd t) (k_Pm (s_th t) (o_pm t) (o_on t) (s_r1 t) (s_r2 t) (s_r3 t)) (o_b t)) j))) ∧ u.2 = ad) (fun u U => k_H g u.2 u.1 U.heap) (k_A g)) (fun _ _ _ => False) 1 6 (k_A g) := by
  refine k_metH (cc := cL_isNeeded) (maxL := 4) (ret := (some .int)) (by decide) rfl (Nat.le_of_ble_eq_true rfl) (fun p e s m args below meth c Q ls hQ hx hb hr hml hts hown hlk htab hK hZ hN hW hS hl => ?_)
  have hown : s.vm.findClass RL = some m.cls := hown
  have hW : k_H g ad t s.heap := hW
  have hl : lv_has ls 4 [(0, .ref (ad 0 0)), (1, .int (nI j)), (2, .ref (ad 24 0))] := hl
  refine lv_aload_n hx hb dL_isNeeded_0 rfl (lv_at hl 2 rfl) ?_
  refine lv_iconst (v := nI 0) hx hb dL_isNeeded_1 (by decide) ?_
  refine lv_aload_n hx hb dL_isNeeded_2 rfl (lv_at hl 0 rfl) ?_
  refine lv_iload_n hx hb dL_isNeeded_3 rfl (lv_at hl 1 rfl) ?_
  refine k_ci (va_runV (As := [.int (nI j)]) (rest := [.int (nI 0), .ref (ad 24 0)]) ⟨hx, hb, hml, hown, hts⟩ (c_X4_isNeeded_ok l hlt g ad t j hj hs hwf hbs hth hn60 hon hr1 hr2 hr3) (cwV 1 hts gL_isNeeded_X4_isNeeded rfl rfl rfl (by decide +kernel) ⟨(Nat.le_of_ble_eq_true rfl), (Nat.le_of_ble_eq_true rfl)⟩) ⟨k_blind, k_recv hK hW (kc_0 g ad t) rfl, fun U hU hw => ⟨rfl, k_I.of hK hZ hN hS hW hU hw⟩⟩ rfl rfl hl.1 rfl (lv_room (Nat.le_of_ble_eq_true rfl)) dL_isNeeded_4 ⟨(Nat.le_of_ble_eq_true rfl), (Nat.le_of_ble_eq_true rfl)⟩) hS (fun r u H locs hpo hW hS => ?_)
  obtain ⟨hr9, hu9⟩ := hpo; replace hu9 := hu9.symm; subst hu9; replace hr9 := hr9.symm; subst hr9
  have hW : k_H g ad (set_o_nd (set_o_pm t (k_Pm (s_th t) (o_pm t) (o_on t) (s_r1 t) (s_r2 t) (s_r3 t))) (k_Nm (s_th t) (o_nd t) (k_Pm (s_th t) (o_pm t) (o_on t) (s_r1 t) (s_r2 t) (s_r3 t)) (o_b t))) H := hW
  refine k_ifz_eq (tgt := 14) hx hb dL_isNeeded_7 (by decide) (fun h_7 => ?_) (fun h_7 => ?_)
  · refine lv_lconst (v := 0) hx hb dL_isNeeded_14 (by decide) ?_
    refine k_last hx hb hK hW hS (kc_24 g ad (set_o_nd (set_o_pm t (k_Pm (s_th t) (o_pm t) (o_on t) (s_r1 t) (s_r2 t) (s_r3 t))) (k_Nm (s_th t) (o_nd t) (k_Pm (s_th t) (o_pm t) (o_on t) (s_r1 t) (s_r2 t) (s_r3 t)) (o_b t)))) 0 rfl (by omega) (by decide) dL_isNeeded_15 (fun H locs hW hS => ?_)
    have hW : k_H g ad (set_l_o (set_o_nd (set_o_pm t (k_Pm (s_th t) (o_pm t) (o_on t) (s_r1 t) (s_r2 t) (s_r3 t))) (k_Nm (s_th t) (o_nd t) (k_Pm (s_th t) (o_pm t) (o_on t) (s_r1 t) (s_r2 t) (s_r3 t)) (o_b t))) (va_up (l_o t) 0 0)) H := kt_l_o (t := set_o_nd (set_o_pm t (k_Pm (s_th t) (o_pm t) (o_on t) (s_r1 t) (s_r2 t) (s_r3 t))) (k_Nm (s_th t) (o_nd t) (k_Pm (s_th t) (o_pm t) (o_on t) (s_r1 t) (s_r2 t) (s_r3 t)) (o_b t))) 0 0 hW
    refine lv_goto (tgt := 22) hx hb dL_isNeeded_16 (by decide) ?_
    refine lv_iconst (v := nI 0) hx hb dL_isNeeded_22 (by decide) ?_
    exact k_riX hQ hx hb hr hlk hS hW ⟨rfl, by rw [h_7]; rfl, rfl⟩ (Nat.le_of_ble_eq_true rfl) (Nat.le_of_ble_eq_true rfl) dL_isNeeded_23
  · refine lv_lconst (v := 1) hx hb dL_isNeeded_10 (by decide) ?_
    refine lv_goto (tgt := 15) hx hb dL_isNeeded_11 (by decide) ?_
    refine k_last hx hb hK hW hS (kc_24 g ad (set_o_nd (set_o_pm t (k_Pm (s_th t) (o_pm t) (o_on t) (s_r1 t) (s_r2 t) (s_r3 t))) (k_Nm (s_th t) (o_nd t) (k_Pm (s_th t) (o_pm t) (o_on t) (s_r1 t) (s_r2 t) (s_r3 t)) (o_b t)))) 0 rfl (by omega) (by decide) dL_isNeeded_15 (fun H locs hW hS => ?_)
    have hW : k_H g ad (set_l_o (set_o_nd (set_o_pm t (k_Pm (s_th t) (o_pm t) (o_on t) (s_r1 t) (s_r2 t) (s_r3 t))) (k_Nm (s_th t) (o_nd t) (k_Pm (s_th t) (o_pm t) (o_on t) (s_r1 t) (s_r2 t) (s_r3 t)) (o_b t))) (va_up (l_o t) 0 1)) H := kt_l_o (t := set_o_nd (set_o_pm t (k_Pm (s_th t) (o_pm t) (o_on t) (s_r1 t) (s_r2 t) (s_r3 t))) (k_Nm (s_th t) (o_nd t) (k_Pm (s_th t) (o_pm t) (o_on t) (s_r1 t) (s_r2 t) (s_r3 t)) (o_b t))) 0 1 hW
    refine lv_goto (tgt := 22) hx hb dL_isNeeded_16 (by decide) ?_
    refine lv_iconst (v := nI 0) hx hb dL_isNeeded_22 (by decide) ?_
    exact k_riX hQ hx hb hr hlk hS hW ⟨rfl, by rw [h_7]; rfl, rfl⟩ (Nat.le_of_ble_eq_true rfl) (Nat.le_of_ble_eq_true rfl) dL_isNeeded_23
abbrev rm_L_isProved : Room := { frames := 8, cells := 1, slots := 6, locals := 133 }
set_option maxRecDepth 100000 in
set_option maxHeartbeats 4000000 in
theorem cw_isProved_b (l : Launch) (hlt : l.stackTraces = false) (g : k_g) (ad : k_AD) (t : k_T) (z : Int32) (hz : z < 0 ∨ nI 60 ≤ z ∨ ∃ j, j < 60 ∧ z = nI j ∧ s_th t j = false) : vx_Met l yL_isProved wsL_isProved rm_L_isProved (va_Pc [.ref (ad 0 0), .int z, .ref (ad 24 0)] (k_I g (k_ct g ad t) ad)) (va_Qi (S := k_T × k_AD) (fun r u => r = nI 1 ∧ u.1 = t ∧ u.2 = ad) (fun u U => k_H g u.2 u.1 U.heap) (k_A g)) (fun _ _ _ => False) 1 6 (k_A g) := by
  refine k_metH (cc := cL_isProved) (maxL := 4) (ret := (some .int)) (by decide) rfl (Nat.le_of_ble_eq_true rfl) (fun p e s m args below meth c Q ls hQ hx hb hr hml hts hown hlk htab hK hZ hN hW hS hl => ?_)
  have hown : s.vm.findClass RL = some m.cls := hown
  have hW : k_H g ad t s.heap := hW
  have hl : lv_has ls 4 [(0, .ref (ad 0 0)), (1, .int z), (2, .ref (ad 24 0))] := hl
  refine lv_aload_n hx hb dL_isProved_0 rfl (lv_at hl 2 rfl) ?_
  refine lv_iconst (v := nI 0) hx hb dL_isProved_1 (by decide) ?_
  refine lv_aload_n hx hb dL_isProved_2 rfl (lv_at hl 0 rfl) ?_
  refine lv_iload_n hx hb dL_isProved_3 rfl (lv_at hl 1 rfl) ?_
  refine k_xc (E0 := "java/lang/IndexOutOfBoundsException") (pre := []) (x := ⟨0, 16, 19, 13⟩) (suf := []) (vx_runV (As := [.int z]) (rest := [.int (nI 0), .ref (ad 24 0)]) ⟨hx, hb, hml, hown, hts⟩ (c_X4_isProved_b l hlt g ad t z hz) (cwV 1 hts gL_isProved_X4_isProved rfl rfl rfl (by decide +kernel) ⟨(Nat.le_of_ble_eq_true rfl), (Nat.le_of_ble_eq_true rfl)⟩) ⟨k_blind, k_recv hK hW (kc_0 g ad t) rfl, fun U hU hw => ⟨rfl, k_I.of hK hZ hN hS hW hU hw⟩⟩ rfl rfl hl.1 rfl (lv_room (Nat.le_of_ble_eq_true rfl)) dL_isProved_4 ⟨(Nat.le_of_ble_eq_true rfl), (Nat.le_of_ble_eq_true rfl)⟩) hS hK hown (htab.trans rfl) (fun _ h9 => absurd h9 List.not_mem_nil) rfl (by decide) (hts (.classLink RL 13 "java/lang/IndexOutOfBoundsException") (by decide +kernel)) (by decide +kernel) (fun q9 H locs hW hS => ?_)
  refine lv_astore_n (lv' := [(3, .ref q9), (0, .ref (ad 0 0)), (1, .int z), (2, .ref (ad 24 0))]) hx hb dL_isProved_19 rfl hl (by decide) rfl (fun ls hl => ?_)
  refine lv_iconst (v := nI 1) hx hb dL_isProved_20 (by decide) ?_
  exact k_riX hQ hx hb hr hlk hS hW ⟨rfl, rfl, rfl⟩ (Nat.le_of_ble_eq_true rfl) (Nat.le_of_ble_eq_true rfl) dL_isProved_21
set_option maxRecDepth 100000 in
set_option maxHeartbeats 4000000 in
theorem cw_isProved_ok (l : Launch) (hlt : l.stackTraces = false) (g : k_g) (ad : k_AD) (t : k_T) (j : Nat) (hj : j < 60) (hs : s_th t j = true) (hwf : ∀ j, s_th t j = true → j < o_n t) : vx_Met l yL_isProved wsL_isProved rm_L_isProved (va_Pc [.ref (ad 0 0), .int (nI j), .ref (ad 24 0)] (k_I g (k_ct g ad t) ad)) (va_Qi (S := k_T × k_AD) (fun r u => r = nI 0 ∧ u.1 = set_l_o t (va_up (l_o t) 0 (k_bl (o_pv t j))) ∧ u.2 = ad) (fun u U => k_H g u.2 u.1 U.heap) (k_A g)) (fun _ _ _ => False) 1 6 (k_A g) := by
  refine k_metH (cc := cL_isProved) (maxL := 4) (ret := (some .int)) (by decide) rfl (Nat.le_of_ble_eq_true rfl) (fun p e s m args below meth c Q ls hQ hx hb hr hml hts hown hlk htab hK hZ hN hW hS hl => ?_)
  have hown : s.vm.findClass RL = some m.cls := hown
  have hW : k_H g ad t s.heap := hW
  have hl : lv_has ls 4 [(0, .ref (ad 0 0)), (1, .int (nI j)), (2, .ref (ad 24 0))] := hl
  refine lv_aload_n hx hb dL_isProved_0 rfl (lv_at hl 2 rfl) ?_
  refine lv_iconst (v := nI 0) hx hb dL_isProved_1 (by decide) ?_
  refine lv_aload_n hx hb dL_isProved_2 rfl (lv_at hl 0 rfl) ?_
  refine lv_iload_n hx hb dL_isProved_3 rfl (lv_at hl 1 rfl) ?_
  refine k_ci (va_runV (As := [.int (nI j)]) (rest := [.int (nI 0), .ref (ad 24 0)]) ⟨hx, hb, hml, hown, hts⟩ (c_X4_isProved_ok l hlt g ad t j hj hs hwf) (cwV 1 hts gL_isProved_X4_isProved rfl rfl rfl (by decide +kernel) ⟨(Nat.le_of_ble_eq_true rfl), (Nat.le_of_ble_eq_true rfl)⟩) ⟨k_blind, k_recv hK hW (kc_0 g ad t) rfl, fun U hU hw => ⟨rfl, k_I.of hK hZ hN hS hW hU hw⟩⟩ rfl rfl hl.1 rfl (lv_room (Nat.le_of_ble_eq_true rfl)) dL_isProved_4 ⟨(Nat.le_of_ble_eq_true rfl), (Nat.le_of_ble_eq_true rfl)⟩) hS (fun r u H locs hpo hW hS => ?_)
  obtain ⟨hr9, hu9⟩ := hpo; replace hu9 := hu9.symm; subst hu9; replace hr9 := hr9.symm; subst hr9
  refine k_ifz_eq (tgt := 14) hx hb dL_isProved_7 (by decide) (fun h_7 => ?_) (fun h_7 => ?_)
  · refine lv_lconst (v := 0) hx hb dL_isProved_14 (by decide) ?_
    refine k_last hx hb hK hW hS (kc_24 g ad t) 0 rfl (by omega) (by decide) dL_isProved_15 (fun H locs hW hS => ?_)
    have hW : k_H g ad (set_l_o t (va_up (l_o t) 0 0)) H := kt_l_o (t := t) 0 0 hW
    refine lv_goto (tgt := 22) hx hb dL_isProved_16 (by decide) ?_
    refine lv_iconst (v := nI 0) hx hb dL_isProved_22 (by decide) ?_
    exact k_riX hQ hx hb hr hlk hS hW ⟨rfl, by rw [h_7]; rfl, rfl⟩ (Nat.le_of_ble_eq_true rfl) (Nat.le_of_ble_eq_true rfl) dL_isProved_23
  · refine lv_lconst (v := 1) hx hb dL_isProved_10 (by decide) ?_
    refine lv_goto (tgt := 15) hx hb dL_isProved_11 (by decide) ?_
    refine k_last hx hb hK hW hS (kc_24 g ad t) 0 rfl (by omega) (by decide) dL_isProved_15 (fun H locs hW hS => ?_)
    have hW : k_H g ad (set_l_o t (va_up (l_o t) 0 1)) H := kt_l_o (t := t) 0 1 hW
    refine lv_goto (tgt := 22) hx hb dL_isProved_16 (by decide) ?_
    refine lv_iconst (v := nI 0) hx hb dL_isProved_22 (by decide) ?_
    exact k_riX hQ hx hb hr hlk hS hW ⟨rfl, by rw [h_7]; rfl, rfl⟩ (Nat.le_of_ble_eq_true rfl) (Nat.le_of_ble_eq_true rfl) dL_isProved_23
