def k_nestF : List (String × Nat × String × String × String × String) := [(RX4, 45, RX1, "changes", "I", RX4), (RX4, 65, RX3, "made", "I", RX4), (RX4, 128, RX3, "daysRule", "I", RX4), (RX4, 131, RX3, "weeksRule", "I", RX4), (RX4, 134, RX3, "monthsRule", "I", RX4), (RX4, 82, RX0, "number", "I", RX4), (RX3, 72, RX0, "madeOn", "I", RX4), (RX4, 149, RX0, "madeOn", "I", RX4), (RX3, 81, RX0, "base", "LDrillVault$Copy;", RX4), (RX4, 152, RX0, "base", "LDrillVault$Copy;", RX4), (RX4, 91, RX0, "changesAhead", "I", RX4), (RX4, 156, RX0, "keptContents", "I", RX4), (RX4, 102, RX0, "damaged", "Z", RX4), (RX4, 106, RX0, "proved", "Z", RX4), (RX3, 69, RX0, "proved", "Z", RX4), (RX3, 34, RX0, "promised", "Z", RX4), (RX4, 162, RX0, "promised", "Z", RX4), (RX3, 38, RX0, "needed", "Z", RX4), (RX4, 165, RX0, "needed", "Z", RX4), (RX3, 66, RX0, "held", "Z", RX4)]
def k_nestM : List (String × Nat × MethodName × String) := [(RX4, 9, ⟨RX1, "<init>", "()V"⟩, RX4), (RX4, 18, ⟨RX3, "<init>", "()V"⟩, RX4)]
def k_strs : List (String × Nat × String) := [(RX4, 199, "no such file"), (RX4, 40, "content is out of range"), (RX4, 50, "no more changes"), (RX4, 61, "days is out of range"), (RX4, 63, "beyond the last day"), (RX4, 89, "no more copies, or no base"), (RX4, 68, "no more copies"), (RX4, 205, "no such copy"), (RX4, 124, "weeks is out of range"), (RX4, 126, "months is out of range"), (RX4, 184, "day or other is out of range, or both are the same"), (RX4, 190, "somebody would be on call on two days in a row"), (RX4, 192, "answering is out of range"), (RX4, 175, "day is out of range")]
def k_cast : List (String × String) := [("java/lang/IndexOutOfBoundsException", "java/lang/IndexOutOfBoundsException"), ("java/lang/IllegalArgumentException", "java/lang/IllegalArgumentException"), ("java/lang/IllegalStateException", "java/lang/IllegalStateException")]
def k_ncs : List (String × String) := [("java/lang/IndexOutOfBoundsException", "java/lang/IllegalArgumentException"), ("java/lang/IndexOutOfBoundsException", "java/lang/IllegalStateException"), ("java/lang/IllegalArgumentException", "java/lang/IndexOutOfBoundsException"), ("java/lang/IllegalArgumentException", "java/lang/IllegalStateException"), ("java/lang/IllegalStateException", "java/lang/IndexOutOfBoundsException"), ("java/lang/IllegalStateException", "java/lang/IllegalArgumentException")]
/-! THE WORLD: cells by NAMES (kind, index); G says what a named cell holds, ad where it lies -/
abbrev k_g : Type := va_G × (Nat → ClassId) × Nat
abbrev k_G : Type := Nat → Nat → Option va_E
abbrev k_AD : Type := Nat → Nat → Nat
def k_tys (g : k_g) : List (ClassId × FieldType) := [(g.2.1 0, .int), (g.2.1 1, .int), (g.2.1 2, .int), (g.2.1 3, .object RX0)]
def k_A (g : k_g) : Nat → Prop := fun q => g.2.2 ≤ q
def k_Ca (q : String × String) (U : State) : Prop := ∃ c t : ClassId, U.vm.findClass q.1 = some c ∧ U.vm.findClass q.2 = some t ∧ U.vm.assignable c t = true
theorem k_Ca.moved {q : String × String} {u U : State} (hvm : u.vm.Alike U.vm) (h : k_Ca q u) : k_Ca q U := by
  obtain ⟨c, t, h1, h2, h3⟩ := h
  exact ⟨c, t, by rw [hvm.findClass]; exact h1, by rw [hvm.findClass]; exact h2, by rw [hvm.assignable]; exact h3⟩
theorem k_Ca.of {args : Array Value} {s : State} {C T : String} (h : (Cond.castable C T).before args s = true) : k_Ca (C, T) s := Cond.castable_spec h
theorem k_Ca.use {args : Array Value} {s : State} {C T : String} (h : k_Ca (C, T) s) : (Cond.castable C T).before args s = true := by
  obtain ⟨c, t, h1, h2, h3⟩ := h
  have h1' : s.vm.findClass C = some c := h1
  have h2' : s.vm.findClass T = some t := h2
  simp only [Cond.before, Cond.holds, Cond.value]
  simp [h1', h2', h3]
def k_De (x : MethodName) (U : State) : Prop := (Cond.declares x).before #[] U = true
theorem k_De.moved {x : MethodName} {u U : State} (hvm : u.vm.Alike U.vm) (h : k_De x u) : k_De x U := by
  have h1 : (Cond.declares x).before #[] (u.setVm U.vm) = true := by
    rw [Cond.declares_setVm hvm]
    exact h
  have e := Cond.onTables_vm (A := #[]) (A' := #[]) (U := u) (U' := U) U.vm (Cond.declares x) rfl
  have hU : U.setVm U.vm = U := rfl
  rw [hU] at e
  unfold k_De
  rw [← e]
  exact h1
def k_decs : List MethodName := [Bundle.initS "java/lang/RuntimeException", Bundle.initS "java/lang/Exception", Bundle.initS "java/lang/Throwable"]
/-- the words that no good list bears: what the nest links, strings, exceptions' classes -/
def k_K (g : k_g) (U : State) : Prop := va_K g.1 vwCl (k_tys g) U ∧ (∀ w ∈ k_nestF, va_Nw (.fieldLinkNest w.1 w.2.1 w.2.2.1 w.2.2.2.1 w.2.2.2.2.1 w.2.2.2.2.2) U) ∧ (∀ w ∈ k_nestM, va_Nw (.methodLinkNest w.1 w.2.1 w.2.2.1 w.2.2.2) U) ∧ (∀ q ∈ k_strs, ∃ a, vk_R q.1 q.2.1 q.2.2 a U) ∧ (∀ q ∈ k_cast, k_Ca q U) ∧ (∀ q ∈ k_ncs, va_Nc q.1 q.2 U) ∧ va_AO RX0 U ∧ ∀ q ∈ k_decs, k_De q U
def k_Z (g : k_g) (U : State) (H : Heap) : Prop := vx_Zq Bundle.tN "UNASSIGNED_STACK" Bundle.steD (k_A g) U H ∧ vx_Zq Bundle.tN "SUPPRESSED_SENTINEL" Bundle.listD (k_A g) U H
def k_Wd (g : k_g) (G : k_G) (ad : k_AD) (H : Heap) : Prop := (∀ a b e, G a b = some e → va_at g.1 vwCl (ad a b, e) H ∧ g.2.2 ≤ ad a b) ∧ ∀ a b a' b' e e', G a b = some e → G a' b' = some e' → ad a b = ad a' b' → a = a' ∧ b = b'
def k_I (g : k_g) (G : k_G) (ad : k_AD) (U : State) : Prop := k_K g U ∧ k_Z g U U.heap ∧ g.2.2 ≤ U.heap.size ∧ k_Wd g G ad U.heap
theorem k_K.warm {g : k_g} {s U : State} (hw : s.WarmedH U.vm) (h : k_K g s) : k_K g U := by
  obtain ⟨h1, h2, h3, h4, h5, h6, h7, h8⟩ := h
  exact ⟨va_K.moved hw.alike h1, fun w hq => va_Nw.warmF hw (h2 w hq), fun w hq => va_Nw.warmM hw (h3 w hq), fun q hq => (h4 q hq).imp fun a ha => vk_R.warm hw ha, fun q hq => (h5 q hq).moved hw.alike, fun q hq => (h6 q hq).moved hw.alike, h7.moved hw.alike, fun q hq => (h8 q hq).moved hw.alike⟩
theorem k_Z.to {g : k_g} {s U : State} {H : Heap} {locs : List Loc} (hw : s.vm.Alike U.vm) (hS : va_S (k_A g) s.heap H locs) (h : k_Z g s s.heap) : k_Z g U H := ⟨vx_Zq.moved hw (h.1.kept hS.2.1), vx_Zq.moved hw (h.2.kept hS.2.1)⟩
theorem k_I.of {g : k_g} {G : k_G} {ad : k_AD} {s U : State} {H : Heap} {locs : List Loc} (hK : k_K g s) (hZ : k_Z g s s.heap) (hN : g.2.2 ≤ s.heap.size) (hS : va_S (k_A g) s.heap H locs) (hW : k_Wd g G ad H) (hU : U.heap = H) (hw : s.WarmedH U.vm) : k_I g G ad U :=
  ⟨hK.warm hw, by rw [hU]; exact hZ.to hw.alike hS, by rw [hU]; exact Nat.le_trans hN hS.1, by rw [hU]; exact hW⟩
theorem k_blind {g : k_g} {G : k_G} {ad : k_AD} {av : List Value} : FrameBlind (va_Pc av (k_I g G ad)) := fun a U fr mk h => ⟨h.1, k_K.warm (U := U.calling fr mk a) (State.WarmedH.refl U) h.2.1, k_Z.to (locs := []) (U := U.calling fr mk a) (Vm.Alike.refl U.vm) va_S.rf h.2.2.1, h.2.2.2.1, h.2.2.2.2⟩
def k_up (G : k_G) (a b : Nat) (e : va_E) : k_G := fun x y => if x = a ∧ y = b then some e else G x y
def k_ua (ad : k_AD) (a b q : Nat) : k_AD := fun x y => if x = a ∧ y = b then q else ad x y
theorem k_Wd.to {g : k_g} {G G' : k_G} {ad : k_AD} {H : Heap} (h : k_Wd g G ad H) (hG : ∀ a b e, G' a b = some e → G a b = some e) : k_Wd g G' ad H :=
  ⟨fun a b e he => h.1 a b e (hG a b e he), fun a b a' b' e e' h1 h2 => h.2 a b a' b' e e' (hG _ _ _ h1) (hG _ _ _ h2)⟩
theorem k_Wd.set {g : k_g} {G : k_G} {ad : k_AD} {H H1 : Heap} (hW : k_Wd g G ad H) {a b : Nat} {e e' : va_E} (hG : G a b = some e) (he : va_at g.1 vwCl (ad a b, e') H1) (oq : ∀ q, q ≠ ad a b → H1[q]? = H[q]?) : k_Wd g (k_up G a b e') ad H1 := by
  have key : ∀ x y z, k_up G a b e' x y = some z → ∃ z', G x y = some z' := by
    intro x y z hz
    by_cases h : x = a ∧ y = b
    · rw [h.1, h.2]; exact ⟨_, hG⟩
    · simp only [k_up, if_neg h] at hz; exact ⟨_, hz⟩
  refine ⟨fun x y z hz => ?_, fun x y x' y' z z' h1 h2 heq => ?_⟩
  · by_cases h : x = a ∧ y = b
    · simp only [k_up, if_pos h] at hz
      cases hz
      rw [h.1, h.2]
      exact ⟨he, (hW.1 _ _ _ hG).2⟩
    · simp only [k_up, if_neg h] at hz
      exact ⟨(hW.1 _ _ _ hz).1.kept (oq _ (fun q => h (hW.2 _ _ _ _ _ _ hz hG q))), (hW.1 _ _ _ hz).2⟩
  · obtain ⟨w, hw⟩ := key _ _ _ h1
    obtain ⟨w', hw'⟩ := key _ _ _ h2
    exact hW.2 _ _ _ _ _ _ hw hw' heq
theorem k_Wd.lt {g : k_g} {G : k_G} {ad : k_AD} {H : Heap} (hW : k_Wd g G ad H) {a b : Nat} {e : va_E} (hG : G a b = some e) : ad a b < H.size := (hW.1 _ _ _ hG).1.lt
theorem k_Wd.new {g : k_g} {G : k_G} {ad : k_AD} {H H1 : Heap} (hW : k_Wd g G ad H) {a b : Nat} {e : va_E} (hG : G a b = none) (hN : g.2.2 ≤ H.size) (he : va_at g.1 vwCl (H.size, e) H1) (oq : ∀ q, q < H.size → H1[q]? = H[q]?) : k_Wd g (k_up G a b e) (k_ua ad a b H.size) H1 := by
  have old : ∀ x y z, G x y = some z → ¬ (x = a ∧ y = b) := by
    intro x y z hz h
    rw [h.1, h.2, hG] at hz
    cases hz
  refine ⟨fun x y z hz => ?_, fun x y x' y' z z' h1 h2 heq => ?_⟩
  · by_cases h : x = a ∧ y = b
    · simp only [k_up, if_pos h] at hz
      cases hz
      simp only [k_ua, if_pos h]
      exact ⟨he, hN⟩
    · simp only [k_up, if_neg h] at hz
      simp only [k_ua, if_neg h]
      exact ⟨(hW.1 _ _ _ hz).1.kept (oq _ (hW.lt hz)), (hW.1 _ _ _ hz).2⟩
  · by_cases h : x = a ∧ y = b <;> by_cases h' : x' = a ∧ y' = b
    · exact ⟨h.1.trans h'.1.symm, h.2.trans h'.2.symm⟩
    · simp only [k_up, if_neg h'] at h2
      simp only [k_ua, if_pos h, if_neg h'] at heq
      exact absurd (hW.lt h2) (by omega)
    · simp only [k_up, if_neg h] at h1
      simp only [k_ua, if_pos h', if_neg h] at heq
      exact absurd (hW.lt h1) (by omega)
    · simp only [k_up, if_neg h] at h1
      simp only [k_up, if_neg h'] at h2
      simp only [k_ua, if_neg h, if_neg h'] at heq
      exact hW.2 _ _ _ _ _ _ h1 h2 heq
theorem k_Wd.grown {g : k_g} {G : k_G} {ad : k_AD} {H H1 : Heap} (hW : k_Wd g G ad H) (oq : ∀ q, q < H.size → H1[q]? = H[q]?) : k_Wd g G ad H1 := ⟨fun x y z hz => ⟨(hW.1 _ _ _ hz).1.kept (oq _ (hW.lt hz)), (hW.1 _ _ _ hz).2⟩, hW.2⟩
theorem k_S.new {g : k_g} {H0 H H1 : Heap} {locs : List Loc} (hS : va_S (k_A g) H0 H locs) (z : H1.size = H.size + 1) (oq : ∀ q, q < H.size → H1[q]? = H[q]?) : va_S (k_A g) H0 H1 locs := ⟨Nat.le_trans hS.1 (by omega), fun x h1 h2 => (oq x (Nat.lt_of_lt_of_le h1 hS.1)).trans (hS.2.1 x h1 h2), hS.2.2⟩
section KRows
variable {p : Program} {l : Launch} {e : Env} {R : Room} {s : State} {m : MethodId} {args : Array Value} {below : List Frame} {meth : Method} {c : Code} {H : Heap} {locs : List Loc} {cells slots : Nat} {Q : State → Prop}
variable {cc : ByteArray} {pc : Nat} {ls : Array Slot} {rest : List Value} {g : k_g} {G : k_G} {ad : k_AD} {H0 : Heap}
theorem k_one {a b : Nat} {x : va_E} (hW : k_Wd g G ad H) (hG : G a b = some x) : va_P g.1 vwCl [(ad a b, x)] H := fun k q h => by
  have hz : k < 1 := (List.getElem?_eq_some_iff.mp h).1
  rw [show k = 0 by omega] at h
  cases h
  exact (hW.1 _ _ _ hG).1
theorem k_get (hexec : p.tables.exec = Jvm.exec) (hb : c.code = cc) {own C : String} {T : u_T} {N ci index : Nat} {Ts : List Cond} (hts : ∀ w ∈ Ts, w.before args s = true) (hin : ∀ w ∈ u_ws C T N, w ∈ Ts) (hown : s.vm.findClass own = some m.cls) (hK : k_K g s) (hW : k_Wd g G ad H) {a b : Nat} {fs : List Value} (hG : G a b = some (.inr (ci, fs))) (hc : vwCl[ci]? = some (C, T, N)) (k : Nat) (hk : k < N) (hlink : (Cond.fieldLink own index C (T k).2.1 (T k).2.2.1).before args s = true) (hdecl : (T k).1 = C) {v : Value} (hv : fs[k]? = some v) (hdg : decode cc pc = .ok (.getfield index, 3))
    (kk : W p l e R s m args below meth c H locs cells slots Q (F0 m (pc + 3) ls (v :: rest))) : W p l e R s m args below meth c H locs cells slots Q (F0 m pc ls (.ref (ad a b) :: rest)) :=
  va_get hexec hb hts hin hown hK.1 (k_one hW hG) 0 rfl hc k hk hlink (fun _ h => by rw [hdecl] at h; exact h) hv hdg kk
theorem k_getN (hexec : p.tables.exec = Jvm.exec) (hb : c.code = cc) {own C host : String} {T : u_T} {N ci index : Nat} {Ts : List Cond} (hts : ∀ w ∈ Ts, w.before args s = true) (hin : ∀ w ∈ u_ws C T N, w ∈ Ts) (hown : s.vm.findClass own = some m.cls) (hK : k_K g s) (hW : k_Wd g G ad H) {a b : Nat} {fs : List Value} (hG : G a b = some (.inr (ci, fs))) (hc : vwCl[ci]? = some (C, T, N)) (k : Nat) (hk : k < N) (hlink : (own, index, C, (T k).2.1, (T k).2.2.1, host) ∈ k_nestF) (hdecl : (T k).1 = C) {v : Value} (hv : fs[k]? = some v) (hdg : decode cc pc = .ok (.getfield index, 3))
    (kk : W p l e R s m args below meth c H locs cells slots Q (F0 m (pc + 3) ls (v :: rest))) : W p l e R s m args below meth c H locs cells slots Q (F0 m pc ls (.ref (ad a b) :: rest)) :=
  va_getN hexec hb hts hin hown hK.1 (k_one hW hG) 0 rfl hc k hk (va_Nw.use rfl (hK.2.1 _ hlink)) (fun _ h => by rw [hdecl] at h; exact h) hv hdg kk
theorem k_put (hexec : p.tables.exec = Jvm.exec) (hb : c.code = cc) {own C : String} {T : u_T} {N ci index : Nat} {Ts : List Cond} (hts : ∀ w ∈ Ts, w.before args s = true) (hin : ∀ w ∈ u_ws C T N, w ∈ Ts) (ty0 : Nat → FieldType) (hty : ∀ k, k < N → parseFieldDescriptor (T k).2.2.1 = some (ty0 k)) (hnm : ∀ a, a < N → ∀ b, b < N → a ≠ b → (T a).2.1 ≠ (T b).2.1) (hown : s.vm.findClass own = some m.cls) (hK : k_K g s) (hW : k_Wd g G ad H) (hS0 : va_S (k_A g) H0 H locs) {a b : Nat} {fs : List Value} (hG : G a b = some (.inr (ci, fs))) (hc : vwCl[ci]? = some (C, T, N)) (k : Nat) (hk : k < N) (hlink : (Cond.fieldLink own index C (T k).2.1 (T k).2.2.1).before args s = true) (hdecl : (T k).1 = C) (hfin : (T k).2.2.2 = false) {ty : FieldType} {v : Value} (hd : parseFieldDescriptor (T k).2.2.1 = some ty) (hn : narrow ty v = v) (hfit : fits ty v = true) (hl : k < fs.length)
    (hdg : decode cc pc = .ok (.putfield index, 3)) (kk : ∀ (H1 : Heap) (locs1 : List Loc), k_Wd g (k_up G a b (.inr (ci, fs.set k v))) ad H1 → va_S (k_A g) H0 H1 locs1 → W p l e R s m args below meth c H1 locs1 cells slots Q (F0 m (pc + 3) ls rest)) : W p l e R s m args below meth c H locs cells slots Q (F0 m pc ls (v :: .ref (ad a b) :: rest)) := by
  have hap := va_apart (own := own) hts hin ty0 hty hnm hK.1 hc
  obtain ⟨⟨r, h1, cell, q1, q2, q3, q4⟩, hNa⟩ := hW.1 _ _ _ hG
  have hr : r = (C, T, N) := Option.some.inj (h1.symm.trans hc)
  subst hr
  obtain ⟨hSl, hfc, kC, hkC, hkind⟩ := hK.1.1 ci _ hc
  obtain ⟨cf, kf, fi, f, hi, hsl⟩ := hSl k hk
  have hlay := hts _ (hin _ (u_in_lay hk))
  unfold u_lay at hlay
  rw [if_neg (by rw [hfin]; decide)] at hlay
  have hst := (u_facts hfc hkC (u_lays hts hin hk) hi).1
  have h6 := u_store hfc hkC hkind hlay hi hd hn hfit
  refine W.putK hexec hb (f := f) ⟨hown, hlink, ⟨_, _, _, by rw [hdecl] at hi; exact hi⟩, hst⟩ (by rw [q2]; exact h6) q1 q3 (by rw [hsl]; exact k2_hasslot (q4 k hk)) rfl rfl hdg fun H' e1 e2 e3 => ?_
  rw [hsl] at e1 ⊢
  exact kk H' _ (hW.set hG ⟨_, hc, t_OB.to (V := updV (vp_V fs) k v) ⟨_, e1, q2, q3, t_set q4 hap hk v⟩ (fun j _ => vp_updV_set hl v j)⟩ e3) (hS0.put e2 e3 hNa)
theorem k_putN (hexec : p.tables.exec = Jvm.exec) (hb : c.code = cc) {own C host : String} {T : u_T} {N ci index : Nat} {Ts : List Cond} (hts : ∀ w ∈ Ts, w.before args s = true) (hin : ∀ w ∈ u_ws C T N, w ∈ Ts) (ty0 : Nat → FieldType) (hty : ∀ k, k < N → parseFieldDescriptor (T k).2.2.1 = some (ty0 k)) (hnm : ∀ a, a < N → ∀ b, b < N → a ≠ b → (T a).2.1 ≠ (T b).2.1) (hown : s.vm.findClass own = some m.cls) (hK : k_K g s) (hW : k_Wd g G ad H) (hS0 : va_S (k_A g) H0 H locs) {a b : Nat} {fs : List Value} (hG : G a b = some (.inr (ci, fs))) (hc : vwCl[ci]? = some (C, T, N)) (k : Nat) (hk : k < N) (hlink : (own, index, C, (T k).2.1, (T k).2.2.1, host) ∈ k_nestF) (hdecl : (T k).1 = C) (hfin : (T k).2.2.2 = false) {ty : FieldType} {v : Value} (hd : parseFieldDescriptor (T k).2.2.1 = some ty) (hn : narrow ty v = v) (hfit : fits ty v = true) (hl : k < fs.length)
    (hdg : decode cc pc = .ok (.putfield index, 3)) (kk : ∀ (H1 : Heap) (locs1 : List Loc), k_Wd g (k_up G a b (.inr (ci, fs.set k v))) ad H1 → va_S (k_A g) H0 H1 locs1 → W p l e R s m args below meth c H1 locs1 cells slots Q (F0 m (pc + 3) ls rest)) : W p l e R s m args below meth c H locs cells slots Q (F0 m pc ls (v :: .ref (ad a b) :: rest)) := by
  have hap := va_apart (own := own) hts hin ty0 hty hnm hK.1 hc
  obtain ⟨⟨r, h1, cell, q1, q2, q3, q4⟩, hNa⟩ := hW.1 _ _ _ hG
  have hr : r = (C, T, N) := Option.some.inj (h1.symm.trans hc)
  subst hr
  obtain ⟨hSl, hfc, kC, hkC, hkind⟩ := hK.1.1 ci _ hc
  obtain ⟨cf, kf, fi, f, hi, hsl⟩ := hSl k hk
  have hlay := hts _ (hin _ (u_in_lay hk))
  unfold u_lay at hlay
  rw [if_neg (by rw [hfin]; decide)] at hlay
  have hst := (u_facts hfc hkC (u_lays hts hin hk) hi).1
  have h6 := u_store hfc hkC hkind hlay hi hd hn hfit
  refine va_WputK hexec hb (f := f) hown (va_Nw.use (A := args) rfl (hK.2.1 _ hlink)) (by rw [hdecl] at hi; exact hi) hst (by rw [q2]; exact h6) q1 q3 (by rw [hsl]; exact k2_hasslot (q4 k hk)) rfl rfl hdg fun H' e1 e2 e3 => ?_
  rw [hsl] at e1 ⊢
  exact kk H' _ (hW.set hG ⟨_, hc, t_OB.to (V := updV (vp_V fs) k v) ⟨_, e1, q2, q3, t_set q4 hap hk v⟩ (fun j _ => vp_updV_set hl v j)⟩ e3) (hS0.put e2 e3 hNa)
theorem k_putF (hexec : p.tables.exec = Jvm.exec) (hb : c.code = cc) {C : String} {T : u_T} {N ci index : Nat} {Ts : List Cond} (hts : ∀ w ∈ Ts, w.before args s = true) (hin : ∀ w ∈ u_ws C T N, w ∈ Ts) (ty0 : Nat → FieldType) (hty : ∀ k, k < N → parseFieldDescriptor (T k).2.2.1 = some (ty0 k)) (hnm : ∀ a, a < N → ∀ b, b < N → a ≠ b → (T a).2.1 ≠ (T b).2.1) (hown : s.vm.findClass C = some m.cls) (hK : k_K g s) (hW : k_Wd g G ad H) (hS0 : va_S (k_A g) H0 H locs) {a b : Nat} {fs : List Value} (hG : G a b = some (.inr (ci, fs))) (hc : vwCl[ci]? = some (C, T, N)) (k : Nat) (hk : k < N) (hlink : (Cond.fieldLink C index C (T k).2.1 (T k).2.2.1).before args s = true) (hdecl : (T k).1 = C) (hfin : (T k).2.2.2 = true) (hin2 : meth.name = "<init>") {ty : FieldType} {v : Value} (hd : parseFieldDescriptor (T k).2.2.1 = some ty) (hn : narrow ty v = v) (hfit : fits ty v = true) (hl : k < fs.length)
    (hdg : decode cc pc = .ok (.putfield index, 3)) (kk : ∀ (H1 : Heap) (locs1 : List Loc), k_Wd g (k_up G a b (.inr (ci, fs.set k v))) ad H1 → va_S (k_A g) H0 H1 locs1 → W p l e R s m args below meth c H1 locs1 cells slots Q (F0 m (pc + 3) ls rest)) : W p l e R s m args below meth c H locs cells slots Q (F0 m pc ls (v :: .ref (ad a b) :: rest)) := by
  have hap := va_apart (own := C) hts hin ty0 hty hnm hK.1 hc
  obtain ⟨⟨r, h1, cell, q1, q2, q3, q4⟩, hNa⟩ := hW.1 _ _ _ hG
  have hr : r = (C, T, N) := Option.some.inj (h1.symm.trans hc)
  subst hr
  obtain ⟨hSl, hfc, kC, hkC, hkind⟩ := hK.1.1 ci _ hc
  obtain ⟨cf, kf, fi, f, hi, hsl⟩ := hSl k hk
  have hlay := hts _ (hin _ (u_in_lay hk))
  unfold u_lay at hlay
  rw [if_pos hfin] at hlay
  have hst := (u_facts hfc hkC (u_lays hts hin hk) hi).1
  have hcf : m.cls = cf := by
    obtain ⟨_, _, c', _, _, _, -, -, hf', -, -, -, hown2, -⟩ := Cond.laysFinal_spec hlay
    have e1 : c' = cf := by have := hi.symm.trans hf'; simp at this; exact this.1.symm
    rw [hdecl] at hown2
    rw [← e1]; exact Option.some.inj (hown.symm.trans hown2)
  have h6 := u_fits hfc hkC hkind (Or.inr hlay) hi hd hn hfit
  refine W.putFinK hexec hb hown hlink (by rw [hdecl] at hi; exact hi) hst hcf hin2 (by rw [q2]; exact h6) q1 q3 (by rw [hsl]; exact k2_hasslot (q4 k hk)) rfl rfl hdg fun H' e1 e2 e3 => ?_
  rw [hsl] at e1 ⊢
  exact kk H' _ (hW.set hG ⟨_, hc, t_OB.to (V := updV (vp_V fs) k v) ⟨_, e1, q2, q3, t_set q4 hap hk v⟩ (fun j _ => vp_updV_set hl v j)⟩ e3) (hS0.put e2 e3 hNa)
theorem k_iald (hexec : p.tables.exec = Jvm.exec) (hb : c.code = cc) (hK : k_K g s) (hW : k_Wd g G ad H) {a b n : Nat} {f : Nat → Int32} (hG : G a b = some (.inl (g.2.1 0, n, .inl f))) {i : Int32} (j : Nat) (hi : i = nI j) (hj : j < n) (hn : n < 2 ^ 31) (hdg : decode cc pc = .ok (.iaload, 1))
    (kk : W p l e R s m args below meth c H locs cells slots Q (F0 m (pc + 1) ls (.int (f j) :: rest))) : W p l e R s m args below meth c H locs cells slots Q (F0 m pc ls (.int i :: .ref (ad a b) :: rest)) := by
  subst hi
  refine va_iald hexec hb hK.1 (k_one hW hG) 0 0 rfl rfl (vp_in_nI hj hn) hdg ?_
  rw [nI_clamp (Nat.lt_trans hj hn)]; exact kk
theorem k_aald (hexec : p.tables.exec = Jvm.exec) (hb : c.code = cc) (hK : k_K g s) (hW : k_Wd g G ad H) {a b n : Nat} {f : Nat → Option Nat} (hG : G a b = some (.inl (g.2.1 3, n, .inr (.inr (.inr (.inr f)))))) {i : Int32} (j : Nat) (hi : i = nI j) (hj : j < n) (hn : n < 2 ^ 31) (hdg : decode cc pc = .ok (.aaload, 1))
    (kk : W p l e R s m args below meth c H locs cells slots Q (F0 m (pc + 1) ls (va_rf (f j) :: rest))) : W p l e R s m args below meth c H locs cells slots Q (F0 m pc ls (.int i :: .ref (ad a b) :: rest)) := by
  subst hi
  refine va_aldq (C := RX0) hexec hb hK.1 (k_one hW hG) 0 3 rfl rfl (vp_in_nI hj hn) hdg ?_
  rw [nI_clamp (Nat.lt_trans hj hn)]; exact kk
theorem k_alen (hexec : p.tables.exec = Jvm.exec) (hb : c.code = cc) (hK : k_K g s) (hW : k_Wd g G ad H) {a b : Nat} {x : vp_A} (q : Nat) {ty : FieldType} (hq : (k_tys g)[q]? = some (g.2.1 q, ty)) (hG : G a b = some (.inl (g.2.1 q, x))) {v : Int32} (hv : Int32.ofNat x.1 = v) (hdg : decode cc pc = .ok (.arraylength, 1))
    (kk : W p l e R s m args below meth c H locs cells slots Q (F0 m (pc + 1) ls (.int v :: rest))) : W p l e R s m args below meth c H locs cells slots Q (F0 m pc ls (.ref (ad a b) :: rest)) :=
  va_alen hexec hb hK.1 (k_one hW hG) 0 q rfl hq hv hdg kk
theorem k_iast (hexec : p.tables.exec = Jvm.exec) (hb : c.code = cc) (hK : k_K g s) (hW : k_Wd g G ad H) (hS : va_S (k_A g) H0 H locs) {a b n : Nat} {f : Nat → Int32} (hG : G a b = some (.inl (g.2.1 0, n, .inl f))) {i x : Int32} (j : Nat) (hi : i = nI j) (hj : j < n) (hn : n < 2 ^ 31) (hdg : decode cc pc = .ok (.iastore, 1))
    (kk : ∀ (H1 : Heap) (locs1 : List Loc), k_Wd g (k_up G a b (.inl (g.2.1 0, n, .inl (upd f j x)))) ad H1 → va_S (k_A g) H0 H1 locs1 → W p l e R s m args below meth c H1 locs1 cells slots Q (F0 m (pc + 1) ls rest)) : W p l e R s m args below meth c H locs cells slots Q (F0 m pc ls (.int x :: .int i :: .ref (ad a b) :: rest)) := by
  subst hi
  have hc := nI_clamp (Nat.lt_trans hj hn)
  obtain ⟨h1, hNa⟩ := hW.1 _ _ _ hG
  have hp1 : vp_in (nI j) n := vp_in_nI hj hn
  refine W.iast hexec hb h1 ((hK.1.2 0 _ rfl).1 n (fun j => .int (f j))) (fun q => by cases q) (by show ¬ (nI j < 0 ∨ (arrV _ _ _).slots.size ≤ _); rw [arrV_size]; exact hp1) rfl rfl hdg fun H1 e z oq => ?_
  refine kk H1 _ (hW.set hG ?_ oq) (hS.put z oq hNa)
  show H1[ad a b]? = some (vp_cell _ _)
  rw [e, hc]
  rw [vp_cell_i, vp_cell_i, arrV_store]
  congr 2
  funext q
  by_cases hq : q = j
  · subst hq; simp [updV, upd]
  · simp [updV, upd, hq]
theorem k_aast (hexec : p.tables.exec = Jvm.exec) (hb : c.code = cc) (hK : k_K g s) (hW : k_Wd g G ad H) (hS : va_S (k_A g) H0 H locs) {a b n a2 b2 : Nat} {f : Nat → Option Nat} (hG : G a b = some (.inl (g.2.1 3, n, .inr (.inr (.inr (.inr f)))))) {fs : List Value} (hG2 : G a2 b2 = some (.inr (0, fs))) {i : Int32} (j : Nat) (hi : i = nI j) (hj : j < n) (hn : n < 2 ^ 31) (hdg : decode cc pc = .ok (.aastore, 1))
    (kk : ∀ (H1 : Heap) (locs1 : List Loc), k_Wd g (k_up G a b (.inl (g.2.1 3, n, .inr (.inr (.inr (.inr (va_up f j (some (ad a2 b2)))))))) ) ad H1 → va_S (k_A g) H0 H1 locs1 → W p l e R s m args below meth c H1 locs1 cells slots Q (F0 m (pc + 1) ls rest)) : W p l e R s m args below meth c H locs cells slots Q (F0 m pc ls (.ref (ad a2 b2) :: .int i :: .ref (ad a b) :: rest)) := by
  subst hi
  have hc := nI_clamp (Nat.lt_trans hj hn)
  obtain ⟨h1, hNa⟩ := hW.1 _ _ _ hG
  obtain ⟨⟨r', hr', cellV, g1, g2, g3, -⟩, -⟩ := hW.1 _ _ _ hG2
  have hcls := (hK.1.1 0 (RX0, TX0, 11) rfl).2
  obtain ⟨kA, comp, k1, k2, k3, -⟩ := (hK.1.2 3 _ rfl).2
  have hcomp : comp = g.1.1 0 := Option.some.inj (k3.symm.trans hcls.1)
  subst hcomp
  obtain ⟨kC, hkC, -⟩ := id hcls.2
  have hp1 : vp_in (nI j) n := vp_in_nI hj hn
  refine W.aast hexec hb h1 (fun q h => by cases h) (fun h => by cases h) k1 k2 rfl hkC ⟨fun q => hp1 (Or.inl q), by show _ < (arrV _ _ _).slots.size; rw [arrV_size, hc]; exact hj⟩ g1 (fun q h => by rw [g3] at h; cases h) (by rw [g2]; exact hkC) (by rw [g2]; exact va_assign hcls) rfl rfl hdg fun H1 e z oq => ?_
  refine kk H1 _ (hW.set hG ?_ oq) (hS.put z oq hNa)
  show H1[ad a b]? = some (vp_cell _ _)
  rw [e, hc]
  rw [vp_cell_q, vp_cell_q, arrV_store]
  congr 2
  funext q
  by_cases hq : q = j
  · subst hq; simp [updV, va_up, va_rf]
  · simp [updV, va_up, hq]
theorem k_aastN (hexec : p.tables.exec = Jvm.exec) (hb : c.code = cc) (hK : k_K g s) (hW : k_Wd g G ad H) (hS : va_S (k_A g) H0 H locs) {a b n : Nat} {f : Nat → Option Nat} (hG : G a b = some (.inl (g.2.1 3, n, .inr (.inr (.inr (.inr f)))))) {i : Int32} (j : Nat) (hi : i = nI j) (hj : j < n) (hn : n < 2 ^ 31) (hdg : decode cc pc = .ok (.aastore, 1))
    (kk : ∀ (H1 : Heap) (locs1 : List Loc), k_Wd g (k_up G a b (.inl (g.2.1 3, n, .inr (.inr (.inr (.inr (va_up f j none))))))) ad H1 → va_S (k_A g) H0 H1 locs1 → W p l e R s m args below meth c H1 locs1 cells slots Q (F0 m (pc + 1) ls rest)) : W p l e R s m args below meth c H locs cells slots Q (F0 m pc ls (.null :: .int i :: .ref (ad a b) :: rest)) := by
  subst hi
  have hc := nI_clamp (Nat.lt_trans hj hn)
  obtain ⟨h1, hNa⟩ := hW.1 _ _ _ hG
  have hp1 : vp_in (nI j) n := vp_in_nI hj hn
  refine va_WaastN (C := RX0) hexec hb h1 ((hK.1.2 3 _ rfl).1 n (fun j => va_rf (f j))) (fun h => by cases h) (by show ¬ (nI j < 0 ∨ (arrV _ _ _).slots.size ≤ _); rw [arrV_size]; exact hp1) rfl rfl hdg fun H1 e z oq => ?_
  refine kk H1 _ (hW.set hG ?_ oq) (hS.put z oq hNa)
  show H1[ad a b]? = some (vp_cell _ _)
  rw [e, hc]
  rw [vp_cell_q, vp_cell_q, arrV_store]
  congr 2
  funext q
  by_cases hq : q = j
  · subst hq; simp [updV, va_up, va_rf]
  · simp [updV, va_up, hq]
theorem k_new (hexec : p.tables.exec = Jvm.exec) (hb : c.code = cc) {own C : String} {T : u_T} {N ci index : Nat} {Ts : List Cond} (hts : ∀ w ∈ Ts, w.before args s = true) (hin : ∀ w ∈ u_ws C T N, w ∈ Ts) (ty : Nat → FieldType) (hty : ∀ k, k < N → parseFieldDescriptor (T k).2.2.1 = some (ty k)) (hown : s.vm.findClass own = some m.cls) (hcl : (Cond.classLink own index C).before args s = true) (hinst : (Cond.instantiable C N).before args s = true) (hini : (Cond.initialized C).before args s = true)
    (hK : k_K g s) (hN : g.2.2 ≤ s.heap.size) (hW : k_Wd g G ad H) (hS : va_S (k_A g) s.heap H locs) (a b : Nat) (hG : G a b = none) (hc : vwCl[ci]? = some (C, T, N)) {fs : List Value} (hfs : ∀ j, j < N → defaultValue (ty j) = vp_V fs j) (hcells : cells + 1 ≤ R.cells) (hslots : slots + N ≤ R.slots) (hdg : decode cc pc = .ok (.new index, 3))
    (kk : ∀ (q : Nat) (H1 : Heap), k_Wd g (k_up G a b (.inr (ci, fs))) (k_ua ad a b q) H1 → va_S (k_A g) s.heap H1 locs →
      W p l e R s m args below meth c H1 locs (cells + 1) (slots + N) Q (F0 m (pc + 3) ls (.ref q :: rest))) : W p l e R s m args below meth c H locs cells slots Q (F0 m pc ls rest) := by
  have hKn := hK.1.1 ci _ hc
  refine W.newcK hexec hb hown hcl hinst hini rfl hdg hcells hslots hKn.2.1 rfl fun H1 kC hkC e1 z1 o1 => ?_
  exact kk H.size H1 (hW.new hG (Nat.le_trans hN hS.1) ⟨_, hc, (u_born ty hts hin hKn hkC e1 hty).to hfs⟩ o1) (k_S.new hS z1 o1)
theorem k_newa (hexec : p.tables.exec = Jvm.exec) (hb : c.code = cc) {atype : ArrayType} (t : Nat) {ty : FieldType} (hty : newarray.typeOf atype = ty) (ht : (k_tys g)[t]? = some (g.2.1 t, ty)) (hobj : ∀ C, ty ≠ .object C) (harr : (Cond.arrayClass ty).before args s = true)
    (hK : k_K g s) (hN : g.2.2 ≤ s.heap.size) (hW : k_Wd g G ad H) (hS : va_S (k_A g) s.heap H locs) (a b : Nat) (hG : G a b = none)
    {n : Int32} (N' : Nat) {x : (Nat → Int32) ⊕ (Nat → Int64) ⊕ (Nat → UInt32) ⊕ (Nat → UInt64) ⊕ (Nat → Option Nat)} (ha : ∀ cA : ClassId, vp_cell cA (N', x) = arrV cA N' (fun _ => defaultValue ty)) (hn : n = nI N') (hN2 : N' < 2 ^ 26) (hcells : cells + 1 ≤ R.cells) (hslots : slots + N' ≤ R.slots) (hby : N' * componentBytes ty ≤ 536870912) (hdg : decode cc pc = .ok (.newarray atype, 2))
    (kk : ∀ (q : Nat) (H1 : Heap), k_Wd g (k_up G a b (.inl (g.2.1 t, N', x))) (k_ua ad a b q) H1 → va_S (k_A g) s.heap H1 locs →
      W p l e R s m args below meth c H1 locs (cells + 1) (slots + N') Q (F0 m (pc + 2) ls (.ref q :: rest))) : W p l e R s m args below meth c H locs cells slots Q (F0 m pc ls (.int n :: rest)) := by
  subst hty
  subst hn
  have hlt : N' < 2 ^ 31 := Nat.lt_trans hN2 (by decide)
  refine va_newaK hexec hb harr rfl hdg rfl (nI_pos hlt) (nI_clamp hlt) hby hcells hslots rfl fun H1 cA e1 z1 o1 hAr hNm => ?_
  have hcA : cA = g.2.1 t := by
    have h9 := (hK.1.2 t _ ht).2
    have h8 : s.vm.findClass ("[" ++ (newarray.typeOf atype).toString) = some (g.2.1 t) := by
      generalize newarray.typeOf atype = ty9 at h9 hobj
      cases ty9 with
      | object C => exact absurd rfl (hobj C)
      | _ => exact h9
    exact Option.some.inj (hNm.symm.trans h8)
  subst hcA
  refine kk H.size H1 (hW.new hG (Nat.le_trans hN hS.1) ?_ o1) (k_S.new hS z1 o1)
  show H1[H.size]? = some (vp_cell _ _)
  rw [ha]; exact e1
theorem k_newq (hexec : p.tables.exec = Jvm.exec) (hb : c.code = cc) {own : String} {index : Nat} (hown : s.vm.findClass own = some m.cls) (hclink : (Cond.classLink own index RX0).before args s = true)
    (hK : k_K g s) (hN : g.2.2 ≤ s.heap.size) (hW : k_Wd g G ad H) (hS : va_S (k_A g) s.heap H locs) (a b : Nat) (hG : G a b = none)
    {n : Int32} (N' : Nat) (hn : n = nI N') (hN2 : N' < 2 ^ 26) (hcells : cells + 1 ≤ R.cells) (hslots : slots + N' ≤ R.slots) (hdg : decode cc pc = .ok (.anewarray index, 3))
    (kk : ∀ (q : Nat) (H1 : Heap), k_Wd g (k_up G a b (.inl (g.2.1 3, N', .inr (.inr (.inr (.inr (fun _ => none))))))) (k_ua ad a b q) H1 → va_S (k_A g) s.heap H1 locs →
      W p l e R s m args below meth c H1 locs (cells + 1) (slots + N') Q (F0 m (pc + 3) ls (.ref q :: rest))) : W p l e R s m args below meth c H locs cells slots Q (F0 m pc ls (.int n :: rest)) := by
  subst hn
  have hlt : N' < 2 ^ 31 := Nat.lt_trans hN2 (by decide)
  have hc := nI_clamp hlt
  refine W.anew hexec hb hown hclink (va_AO.use hK.2.2.2.2.2.2.1) rfl hdg rfl (nI_pos hlt) (by rw [hc]; omega) hcells (by rw [hc]; exact hslots) fun cA kA comp f1 f2 f3 f4 => ?_
  rw [hc]
  have hcA : cA = g.2.1 3 := by
    obtain ⟨_, _, _, _, _, h9⟩ := (hK.1.2 3 _ rfl).2
    exact Option.some.inj (f1.symm.trans h9)
  subst hcA
  generalize hH1 : H.push ({ cls := g.2.1 3, slots := Array.replicate N' .null, vm := .none } : Cell) = H1
  have z1 : H1.size = H.size + 1 := by rw [← hH1, Array.size_push]
  have e1 : H1[H.size]? = some (arrV (g.2.1 3) N' (fun _ => .null)) := by rw [← hH1, Array.getElem?_push_size, ← arrV_new]
  have o1 : ∀ q : Nat, q < H.size → H1[q]? = H[q]? := fun q hq => by rw [← hH1, Array.getElem?_push, if_neg (Nat.ne_of_lt hq)]
  refine kk H.size H1 (hW.new hG (Nat.le_trans hN hS.1) ?_ o1) (k_S.new hS z1 o1)
  show H1[H.size]? = some (vp_cell _ _)
  rw [vp_cell_q]; exact e1
theorem k_recv {a b ci : Nat} {fs : List Value} {q : vw_C} (hK : k_K g s) (hW : k_Wd g G ad H) (hG : G a b = some (.inr (ci, fs))) (hc : vwCl[ci]? = some q) : ∃ cell : Cell, H[ad a b]? = some cell ∧ cell.vm.isStatics = false ∧ s.vm.findClass q.1 = some cell.cls := va_recv hK.1 (k_one hW hG) (q0 := 0) hc rfl
end KRows
