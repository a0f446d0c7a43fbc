section XRows
variable {p : Program} {l : Launch} {e : Env} {R : Room} {s : State} {m : MethodId} {args : Array Value} {below : List Frame} {meth : Method} {c : Code} {H : Heap} {locs : List Loc} {cells slots : Nat} {Q : State → Prop}
variable {cc : ByteArray} {pc : Nat} {ls : Array Slot} {rest st0 : List Value} {g : k_g} {G : k_G} {ad : k_AD} {mc ms : Nat} {a : Array Value} {XC : String → State → State → Prop}
theorem k_metH {y : MethodName} {ws ws' : List Cond} {rm : Room} {Qc : Array Value → State → Outcome → State → Prop} {av : List Value} {cc : ByteArray} {maxL : Nat} {ret : Option FieldType} {hh : List (Nat × Nat × Nat × Nat)} (hy : plainName y.cls = true) (hw : ws = Cond.codeWith y cc maxL ret hh :: ws') (hle : (lg_sl av).length ≤ maxL)
  (body : ∀ (p : Program) (e : Env) (s : State) (m : MethodId) (args : Array Value) (below : List Frame) (meth : Method) (c : Code) (Q : State → Prop) (ls : Array Slot), Q = vx_MQ below Qc XC args s mc ms (k_A g) → p.tables.exec = Jvm.exec → c.code = cc → meth.sig.returnType = ret → c.maxLocals = maxL → (∀ w ∈ ws, w.before args s = true) → s.vm.findClass y.cls = some m.cls → meth.locks = false → c.exceptionTable.toList = tableOf hh → k_K g s → k_Z g s s.heap → g.2.2 ≤ s.heap.size → k_Wd g G ad s.heap → va_S (k_A g) s.heap s.heap [] → lv_has ls maxL (lv_args 0 av) → W p l e rm s m args below meth c s.heap [] 0 0 Q (F0 m 0 ls [])) : vx_Met l y ws rm (va_Pc av (k_I g G ad)) Qc XC mc ms (k_A g) := by
  refine vx_ofWH (cc := cc) (maxL := maxL) (ret := ret) (hh := hh) hy hw ?_
  intro p e s m args below meth c s₁ B hml hv
  obtain ⟨rfl, hK, hZ, hN, hW⟩ := hv
  rw [lg_entry_eq]
  have hts := atoms_spec (ws := ws) B.pre
  exact body p e s m _ below meth c _ _ rfl B.exec B.bytes B.returns hml hts (findClass_of_methodNamed B.named) B.notSynchronized (vx_table (x := y) B (hts _ (by rw [hw]; exact List.mem_cons_self))) hK hZ hN hW va_S.rf (lv_entry av hle)
theorem k_riX {post : Int32 → k_T × k_AD → Prop} {r : Int32} {t : k_T} (hQ : Q = vx_MQ below (va_Qi (S := k_T × k_AD) post (fun u U => k_H g u.2 u.1 U.heap) (k_A g)) XC args s mc ms (k_A g)) (hx : p.tables.exec = Jvm.exec) (hb : c.code = cc) (hr : meth.sig.returnType = some .int) (hlk : meth.locks = false) (hS : va_S (k_A g) s.heap H locs) (hW : k_H g ad t H) (hp : post r (t, ad)) (hc : cells ≤ mc) (hs : slots ≤ ms) (hd : decode cc pc = .ok (.ireturn, 1)) : W p l e R s m args below meth c H locs cells slots Q (F0 m pc ls [.int r]) := by
  subst hQ
  exact vx_ret (k_riA rfl hx hb hr hlk hS hW hp hc hs hd)
theorem k_ciA {post : Int32 → k_T × k_AD → Prop} (hr : va_Run p l e R s m args below meth c H locs cells slots mc ms (F0 m pc ls st0) rest (va_Qi (S := k_T × k_AD) post (fun u U => k_H g u.2 u.1 U.heap) (k_A g) a) (k_A g)) (hS : va_S (k_A g) s.heap H locs)
    (kk : ∀ (r : Int32) (u : k_T × k_AD) (H1 : Heap) (locs1 : List Loc), post r u → k_H g u.2 u.1 H1 → va_S (k_A g) s.heap H1 locs1 → W p l e R s m args below meth c H1 locs1 (cells + mc) (slots + ms) Q (F0 m (pc + 3) ls (.int r :: rest))) : W p l e R s m args below meth c H locs cells slots Q (F0 m pc ls st0) :=
  va_calli hr hS (fun _ _ h => h) (fun _ h => h) (fun r u t H1 locs1 ht _ hp hb _ _ hS1 => kk r u H1 locs1 hp (ht ▸ hb) hS1)
theorem k_xc {t : k_T} {E0 : String} {pre suf : List ExceptionTableEntry} {x : ExceptionTableEntry} (hr : vx_Run p l e R s m args below meth c H locs cells slots mc ms (F0 m pc ls st0) rest (va_Qv (fun _ => False) (fun u U => k_H g ad u U.heap) (k_A g) a) (vx_X (fun u => u = t) (fun E u U => E = E0 ∧ k_H g ad u U.heap) (k_A g)) (k_A g)) (hS : va_S (k_A g) s.heap H locs) (hK : k_K g s) (hown : s.vm.findClass RL = some m.cls) (tab : c.exceptionTable.toList = pre ++ x :: suf)
    (hpass : ∀ z ∈ pre, z.catchType ≠ 0 ∧ ∃ nm : String, (Cond.classLink RL z.catchType nm).before args s = true ∧ (E0, nm) ∈ k_ncs) (hcov : covers x pc = true) (h0 : x.catchType ≠ 0) (hlink : (Cond.classLink RL x.catchType E0).before args s = true) (hcast : (E0, E0) ∈ k_cast)
    (kk : ∀ (q : Nat) (H1 : Heap) (locs1 : List Loc), k_H g ad t H1 → va_S (k_A g) s.heap H1 locs1 → W p l e R s m args below meth c H1 locs1 (cells + mc) (slots + ms) Q (F0 m x.handlerPc ls [.ref q])) : W p l e R s m args below meth c H locs cells slots Q (F0 m pc ls st0) := by
  refine vx_callv hr hS (fun _ _ h => h) (fun _ h => h) (fun _ _ h => h) (fun E ce q9 u t9 H1 locs1 ht _ hp hB _ _ hS1 hce hcv hcl => ?_) (fun u t9 H1 locs1 ht _ hp _ _ _ _ => hp.elim)
  obtain ⟨rfl, hB2⟩ := hB
  subst hp
  refine vx_catch hown pre x suf tab (fun z hz => Or.inr ?_) hcov h0 hlink (k_Ca.use (hK.2.2.2.2.1 _ hcast)) hce hcv hcl (kk q9 H1 locs1 (ht ▸ hB2) hS1)
  obtain ⟨h1, nm, h2, h3⟩ := hpass z hz
  exact ⟨h1, nm, h2, hK.2.2.2.2.2.1 _ h3⟩
theorem k_riY {post : Int32 → k_T → Prop} {r : Int32} {t : k_T} (hQ : Q = vx_MQ below (va_Qi post (fun u U => k_H g ad u U.heap) (k_A g)) XC args s mc ms (k_A g)) (hx : p.tables.exec = Jvm.exec) (hb : c.code = cc) (hr : meth.sig.returnType = some .int) (hlk : meth.locks = false) (hS : va_S (k_A g) s.heap H locs) (hW : k_H g ad t H) (hp : post r t) (hc : cells ≤ mc) (hs : slots ≤ ms) (hd : decode cc pc = .ok (.ireturn, 1)) : W p l e R s m args below meth c H locs cells slots Q (F0 m pc ls [.int r]) := by
  subst hQ
  exact vx_ret (k_ri rfl hx hb hr hlk hS hW hp hc hs hd)
theorem k_rzA {post : Int32 → k_T × k_AD → Prop} {r : Int32} {t : k_T} (hQ : Q = MQ below (va_Qi (S := k_T × k_AD) post (fun u U => k_H g u.2 u.1 U.heap) (k_A g)) args s mc ms (k_A g)) (hx : p.tables.exec = Jvm.exec) (hb : c.code = cc) (hr : meth.sig.returnType = some .boolean) (hn : narrow .boolean (.int r) = .int r) (hlk : meth.locks = false) (hS : va_S (k_A g) s.heap H locs) (hW : k_H g ad t H) (hp : post r (t, ad)) (hc : cells ≤ mc) (hs : slots ≤ ms) (hd : decode cc pc = .ok (.ireturn, 1)) : W p l e R s m args below meth c H locs cells slots Q (F0 m pc ls [.int r]) := by
  subst hQ
  refine W.widen hc hs ?_
  exact W.zret hx hb hr hn (fun t9 ht _ => ⟨⟨r, (t, ad), rfl, hp, by show k_H g ad t t9.heap; rw [ht]; exact hW⟩, hS.F ht⟩) hS.2.2 hd hlk
theorem lw_va {f : JFrame} {Qa : State → Outcome → State → Prop} {free : Addr → Prop} (hr : vx_Run p l e R s m args below meth c H locs cells slots mc ms f rest Qa (fun _ _ _ => False) free) : va_Run p l e R s m args below meth c H locs cells slots mc ms f rest Qa free := by
  intro T hT X
  rcases hr T hT X with h | ⟨q, st, t9, T9, L9, E9, ce, h0, h1, h2, h3, h4, h5, h6⟩
  · exact h
  · exact h5.elim
theorem k_b1_ne (hx : p.tables.exec = Jvm.exec) (hb : c.code = cc) {b : Bool} {off : Int} {tgt : Nat} (hd : decode cc pc = .ok (.if_icmp .ne off, 3)) (ht : (pc : Int) + off = (tgt : Int)) (kt : b = false → W p l e R s m args below meth c H locs cells slots Q (F0 m tgt ls rest)) (kf : b = true → W p l e R s m args below meth c H locs cells slots Q (F0 m (pc + 3) ls rest)) : W p l e R s m args below meth c H locs cells slots Q (F0 m pc ls (.int (nI 1) :: .int (kb b) :: rest)) :=
  lv_icmp_ne hx hb hd ht (fun h => kt (by cases b with | false => rfl | true => exact absurd rfl h)) (fun h => kf (by cases b with | true => rfl | false => exact absurd h (by decide)))
theorem k_b1_eq (hx : p.tables.exec = Jvm.exec) (hb : c.code = cc) {b : Bool} {off : Int} {tgt : Nat} (hd : decode cc pc = .ok (.if_icmp .eq off, 3)) (ht : (pc : Int) + off = (tgt : Int)) (kt : b = true → W p l e R s m args below meth c H locs cells slots Q (F0 m tgt ls rest)) (kf : b = false → W p l e R s m args below meth c H locs cells slots Q (F0 m (pc + 3) ls rest)) : W p l e R s m args below meth c H locs cells slots Q (F0 m pc ls (.int (nI 1) :: .int (kb b) :: rest)) :=
  lv_icmp_eq hx hb hd ht (fun h => kt (by cases b with | true => rfl | false => exact absurd h (by decide))) (fun h => kf (by cases b with | false => rfl | true => exact absurd rfl h))
end XRows

/-- what the law's rows x and m say of the copies made -/
def q_A (t : k_T) (N : Nat) (th : Nat → Bool) (on : Nat → Nat) (bs : Nat → Option Nat) : Prop := (N ≤ 14) ∧ (w_m t 0 = nI N) ∧ (w_m t 2 = kB th) ∧ (∀ j, th j = true → j < N) ∧ (∀ k, k < N → w_x t k = nI (on k)) ∧ (∀ k, k < N → on k ≤ 360) ∧ (∀ i j, i ≤ j → j < N → on i ≤ on j) ∧ (∀ k, k < N → w_x t (14 + k) = kO (bs k)) ∧ (∀ k b, k < N → bs k = some b → b < k)
theorem q_A.n14 {t : k_T} {N : Nat} {th : Nat → Bool} {on : Nat → Nat} {bs : Nat → Option Nat} (J : q_A t N th on bs) : N ≤ 14 := J.1
theorem q_A.m0 {t : k_T} {N : Nat} {th : Nat → Bool} {on : Nat → Nat} {bs : Nat → Option Nat} (J : q_A t N th on bs) : w_m t 0 = nI N := J.2.1
theorem q_A.m2 {t : k_T} {N : Nat} {th : Nat → Bool} {on : Nat → Nat} {bs : Nat → Option Nat} (J : q_A t N th on bs) : w_m t 2 = kB th := J.2.2.1
theorem q_A.th {t : k_T} {N : Nat} {th : Nat → Bool} {on : Nat → Nat} {bs : Nat → Option Nat} (J : q_A t N th on bs) : ∀ j, th j = true → j < N := J.2.2.2.1
theorem q_A.x0 {t : k_T} {N : Nat} {th : Nat → Bool} {on : Nat → Nat} {bs : Nat → Option Nat} (J : q_A t N th on bs) : ∀ k, k < N → w_x t k = nI (on k) := J.2.2.2.2.1
theorem q_A.d {t : k_T} {N : Nat} {th : Nat → Bool} {on : Nat → Nat} {bs : Nat → Option Nat} (J : q_A t N th on bs) : ∀ k, k < N → on k ≤ 360 := J.2.2.2.2.2.1
theorem q_A.mo {t : k_T} {N : Nat} {th : Nat → Bool} {on : Nat → Nat} {bs : Nat → Option Nat} (J : q_A t N th on bs) : ∀ i j, i ≤ j → j < N → on i ≤ on j := J.2.2.2.2.2.2.1
theorem q_A.x1 {t : k_T} {N : Nat} {th : Nat → Bool} {on : Nat → Nat} {bs : Nat → Option Nat} (J : q_A t N th on bs) : ∀ k, k < N → w_x t (14 + k) = kO (bs k) := J.2.2.2.2.2.2.2.1
theorem q_A.bs {t : k_T} {N : Nat} {th : Nat → Bool} {on : Nat → Nat} {bs : Nat → Option Nat} (J : q_A t N th on bs) : ∀ k b, k < N → bs k = some b → b < k := J.2.2.2.2.2.2.2.2
/-- .. and of the rules -/
def q_R (t : k_T) (r1 r2 r3 : Nat) : Prop := (w_m t 5 = nI r1) ∧ (w_m t 6 = nI r2) ∧ (w_m t 7 = nI r3) ∧ (r1 ≤ 30) ∧ (r2 ≤ 30) ∧ (r3 ≤ 30)
theorem q_R.m5 {t : k_T} {r1 r2 r3 : Nat} (J : q_R t r1 r2 r3) : w_m t 5 = nI r1 := J.1
theorem q_R.m6 {t : k_T} {r1 r2 r3 : Nat} (J : q_R t r1 r2 r3) : w_m t 6 = nI r2 := J.2.1
theorem q_R.m7 {t : k_T} {r1 r2 r3 : Nat} (J : q_R t r1 r2 r3) : w_m t 7 = nI r3 := J.2.2.1
theorem q_R.b1 {t : k_T} {r1 r2 r3 : Nat} (J : q_R t r1 r2 r3) : r1 ≤ 30 := J.2.2.2.1
theorem q_R.b2 {t : k_T} {r1 r2 r3 : Nat} (J : q_R t r1 r2 r3) : r2 ≤ 30 := J.2.2.2.2.1
theorem q_R.b3 {t : k_T} {r1 r2 r3 : Nat} (J : q_R t r1 r2 r3) : r3 ≤ 30 := J.2.2.2.2.2
/-- the day of the last of the first n that is so -/
def q_pf (p : Nat → Bool) (on : Nat → Nat) : Nat → Int32
  | 0 => -1
  | n + 1 => if p n = true then nI (on n) else q_pf p on n
/-- what stays by itself, the law's way -/
def q_ST (th nd : Nat → Bool) (on : Nat → Nat) (z : Int32) : Nat → Bool := fun j => nd j || (th j && !(th j && (!nd j && decide (nI (on j) < z))))
theorem q_mono {on : Nat → Nat} {N l : Nat} (h : ∀ i j, i ≤ j → j < N → on i ≤ on j) : ∀ i j, i ≤ j → j < N → (fun q => on q / l) i ≤ (fun q => on q / l) j := fun i j h1 h2 => Nat.div_le_div_right (h i j h1 h2)
theorem q_pdlt {on : Nat → Nat} {N l : Nat} (h : ∀ k, k < N → on k ≤ 360) : ∀ j, j < N → (fun q => on q / l) j < 2 ^ 31 := fun j h1 => Nat.lt_of_le_of_lt (Nat.div_le_self _ _) (by have := h j h1; omega)
theorem q_P3 {th : Nat → Bool} {on : Nat → Nat} {N r1 r2 r3 : Nat} : kB (k_P th on N r1 r2 r3) = kB (fun j => ((false || k_sel th (fun q => on q / 1) N r1 (-1) j) || k_sel th (fun q => on q / 7) N r2 (-1) j) || k_sel th (fun q => on q / 28) N r3 (-1) j) :=
  congrArg kB (funext fun j => by
    have e : (fun q => on q / 1) = (fun q => k_pd 0 (on q)) := funext fun q => Nat.div_one _
    rw [e, Bool.false_or, Bool.or_assoc]; rfl)
