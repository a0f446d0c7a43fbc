section
-- ===== PART A: goes FIRST, ahead of the names: the tables' words, and 'selects' of the private methods out of them =====
/-- a private method of a class that the tables say can be made, by its rows of tables_1 -/
def lw_okq (q : MethodName × Nat) : Prop := (q.1.cls ≠ "java/lang/invoke/MethodHandle" ∧ q.1.cls ≠ "java/lang/invoke/VarHandle") ∧ Cond.instantiable q.1.cls q.2 ∈ tables_1 ∧ Cond.privateMethod q.1 ∈ tables_1 ∧ Cond.instanceMethod q.1 ∈ tables_1
theorem lw_p0 : lw_okq (⟨"DrillVault$Shelf", "promiseLatest", "(II)V"⟩, 5) := ⟨⟨by decide +kernel, by decide +kernel⟩, List.mem_of_getElem? (i := 44) (by decide +kernel), List.mem_of_getElem? (i := 107) (by decide +kernel), List.mem_of_getElem? (i := 108) (by decide +kernel)⟩
theorem lw_p1 : lw_okq (⟨"DrillVault$Shelf", "latestProvedDay", "()I"⟩, 5) := ⟨⟨by decide +kernel, by decide +kernel⟩, List.mem_of_getElem? (i := 44) (by decide +kernel), List.mem_of_getElem? (i := 119) (by decide +kernel), List.mem_of_getElem? (i := 120) (by decide +kernel)⟩
theorem lw_p2 : lw_okq (⟨"DrillVault$Shelf", "markHeld", "(I)V"⟩, 5) := ⟨⟨by decide +kernel, by decide +kernel⟩, List.mem_of_getElem? (i := 44) (by decide +kernel), List.mem_of_getElem? (i := 126) (by decide +kernel), List.mem_of_getElem? (i := 127) (by decide +kernel)⟩
theorem lw_p3 : lw_okq (⟨"java/lang/Throwable", "fillInStackTrace", "(I)Ljava/lang/Throwable;"⟩, 6) := ⟨⟨by decide +kernel, by decide +kernel⟩, List.mem_of_getElem? (i := 205) (by decide +kernel), List.mem_of_getElem? (i := 203) (by decide +kernel), List.mem_of_getElem? (i := 204) (by decide +kernel)⟩
theorem lw_p4 : lw_okq (⟨"DrillVault", "requireCopy", "(I)LDrillVault$Copy;"⟩, 4) := ⟨⟨by decide +kernel, by decide +kernel⟩, List.mem_of_getElem? (i := 15) (by decide +kernel), List.mem_of_getElem? (i := 382) (by decide +kernel), List.mem_of_getElem? (i := 383) (by decide +kernel)⟩
theorem lw_p5 : lw_okq (⟨"DrillVault", "isOpenForSwaps", "(I)Z"⟩, 4) := ⟨⟨by decide +kernel, by decide +kernel⟩, List.mem_of_getElem? (i := 15) (by decide +kernel), List.mem_of_getElem? (i := 512) (by decide +kernel), List.mem_of_getElem? (i := 513) (by decide +kernel)⟩
theorem lw_p6 : lw_okq (⟨"DrillVault$Rota", "exchange", "(II)V"⟩, 1) := ⟨⟨by decide +kernel, by decide +kernel⟩, List.mem_of_getElem? (i := 72) (by decide +kernel), List.mem_of_getElem? (i := 521) (by decide +kernel), List.mem_of_getElem? (i := 522) (by decide +kernel)⟩
theorem lw_p7 : lw_okq (⟨"DrillVault$Rota", "isRestedAround", "(I)Z"⟩, 1) := ⟨⟨by decide +kernel, by decide +kernel⟩, List.mem_of_getElem? (i := 72) (by decide +kernel), List.mem_of_getElem? (i := 525) (by decide +kernel), List.mem_of_getElem? (i := 526) (by decide +kernel)⟩
theorem lw_p8 : lw_okq (⟨"DrillVaultModel", "goes", "(ZZZ)Z"⟩, 21) := ⟨⟨by decide +kernel, by decide +kernel⟩, List.mem_of_getElem? (i := 543) (by decide +kernel), List.mem_of_getElem? (i := 628) (by decide +kernel), List.mem_of_getElem? (i := 629) (by decide +kernel)⟩
theorem lw_p9 : lw_okq (⟨"DrillVaultModel", "makes", "(I)I"⟩, 21) := ⟨⟨by decide +kernel, by decide +kernel⟩, List.mem_of_getElem? (i := 543) (by decide +kernel), List.mem_of_getElem? (i := 640) (by decide +kernel), List.mem_of_getElem? (i := 641) (by decide +kernel)⟩
theorem lw_p10 : lw_okq (⟨"DrillVaultModel", "latest", "()I"⟩, 21) := ⟨⟨by decide +kernel, by decide +kernel⟩, List.mem_of_getElem? (i := 543) (by decide +kernel), List.mem_of_getElem? (i := 648) (by decide +kernel), List.mem_of_getElem? (i := 649) (by decide +kernel)⟩
theorem lw_p11 : lw_okq (⟨"DrillVaultModel", "isCopy", "(I)Z"⟩, 21) := ⟨⟨by decide +kernel, by decide +kernel⟩, List.mem_of_getElem? (i := 543) (by decide +kernel), List.mem_of_getElem? (i := 656) (by decide +kernel), List.mem_of_getElem? (i := 657) (by decide +kernel)⟩
theorem lw_p12 : lw_okq (⟨"DrillVaultModel", "marks", "()I"⟩, 21) := ⟨⟨by decide +kernel, by decide +kernel⟩, List.mem_of_getElem? (i := 543) (by decide +kernel), List.mem_of_getElem? (i := 660) (by decide +kernel), List.mem_of_getElem? (i := 661) (by decide +kernel)⟩
theorem lw_p13 : lw_okq (⟨"DrillVaultModel", "promises", "(II)V"⟩, 21) := ⟨⟨by decide +kernel, by decide +kernel⟩, List.mem_of_getElem? (i := 543) (by decide +kernel), List.mem_of_getElem? (i := 664) (by decide +kernel), List.mem_of_getElem? (i := 665) (by decide +kernel)⟩
theorem lw_p14 : lw_okq (⟨"DrillVaultModel", "isBroken", "(I)Z"⟩, 21) := ⟨⟨by decide +kernel, by decide +kernel⟩, List.mem_of_getElem? (i := 543) (by decide +kernel), List.mem_of_getElem? (i := 668) (by decide +kernel), List.mem_of_getElem? (i := 669) (by decide +kernel)⟩
theorem lw_p15 : lw_okq (⟨"DrillVaultModel", "exchanges", "(II)V"⟩, 21) := ⟨⟨by decide +kernel, by decide +kernel⟩, List.mem_of_getElem? (i := 543) (by decide +kernel), List.mem_of_getElem? (i := 740) (by decide +kernel), List.mem_of_getElem? (i := 741) (by decide +kernel)⟩
def lw_privs_1 : List (MethodName × Nat) := [(⟨"DrillVault$Shelf", "promiseLatest", "(II)V"⟩, 5), (⟨"DrillVault$Shelf", "latestProvedDay", "()I"⟩, 5), (⟨"DrillVault$Shelf", "markHeld", "(I)V"⟩, 5), (⟨"java/lang/Throwable", "fillInStackTrace", "(I)Ljava/lang/Throwable;"⟩, 6), (⟨"DrillVault", "requireCopy", "(I)LDrillVault$Copy;"⟩, 4), (⟨"DrillVault", "isOpenForSwaps", "(I)Z"⟩, 4), (⟨"DrillVault$Rota", "exchange", "(II)V"⟩, 1), (⟨"DrillVault$Rota", "isRestedAround", "(I)Z"⟩, 1), (⟨"DrillVaultModel", "goes", "(ZZZ)Z"⟩, 21), (⟨"DrillVaultModel", "makes", "(I)I"⟩, 21), (⟨"DrillVaultModel", "latest", "()I"⟩, 21), (⟨"DrillVaultModel", "isCopy", "(I)Z"⟩, 21), (⟨"DrillVaultModel", "marks", "()I"⟩, 21), (⟨"DrillVaultModel", "promises", "(II)V"⟩, 21), (⟨"DrillVaultModel", "isBroken", "(I)Z"⟩, 21), (⟨"DrillVaultModel", "exchanges", "(II)V"⟩, 21)]
theorem lw_r1 : ∀ q ∈ lw_privs_1, lw_okq q := List.forall_mem_cons.mpr ⟨lw_p0, List.forall_mem_cons.mpr ⟨lw_p1, List.forall_mem_cons.mpr ⟨lw_p2, List.forall_mem_cons.mpr ⟨lw_p3, List.forall_mem_cons.mpr ⟨lw_p4, List.forall_mem_cons.mpr ⟨lw_p5, List.forall_mem_cons.mpr ⟨lw_p6, List.forall_mem_cons.mpr ⟨lw_p7, List.forall_mem_cons.mpr ⟨lw_p8, List.forall_mem_cons.mpr ⟨lw_p9, List.forall_mem_cons.mpr ⟨lw_p10, List.forall_mem_cons.mpr ⟨lw_p11, List.forall_mem_cons.mpr ⟨lw_p12, List.forall_mem_cons.mpr ⟨lw_p13, List.forall_mem_cons.mpr ⟨lw_p14, List.forall_mem_cons.mpr ⟨lw_p15, fun _ h => absurd h List.not_mem_nil⟩⟩⟩⟩⟩⟩⟩⟩⟩⟩⟩⟩⟩⟩⟩⟩
theorem lw_p16 : lw_okq (⟨"DrillVaultModel", "isTwice", "(I)Z"⟩, 21) := ⟨⟨by decide +kernel, by decide +kernel⟩, List.mem_of_getElem? (i := 543) (by decide +kernel), List.mem_of_getElem? (i := 744) (by decide +kernel), List.mem_of_getElem? (i := 745) (by decide +kernel)⟩
def lw_privs_2 : List (MethodName × Nat) := [(⟨"DrillVaultModel", "isTwice", "(I)Z"⟩, 21)]
theorem lw_r2 : ∀ q ∈ lw_privs_2, lw_okq q := List.forall_mem_cons.mpr ⟨lw_p16, fun _ h => absurd h List.not_mem_nil⟩
def lw_privs : List (MethodName × Nat) := lw_privs_1 ++ (lw_privs_2)
def lw_tbl : List Cond := k2_sels lw_privs ++ tables_1
theorem lw_privs_ok : ∀ q ∈ lw_privs, lw_okq q := by
  show ∀ q ∈ lw_privs_1 ++ (lw_privs_2), lw_okq q
  exact List.forall_mem_append.mpr ⟨lw_r1, lw_r2⟩
end
section
/-! ===== BEGIN words of one list among another's, by their places ===== -/
theorem goodIn_r {big : List Cond} (ws : List Cond) (ps : List Nat) (hp : ws = ps.filterMap (fun i => big[i]?)) (h : ws.all goodWord = true) : GoodIn big ws := by
  intro w hw
  have h1 := List.all_eq_true.mp h w hw
  rw [hp] at hw
  obtain ⟨i, -, hi⟩ := List.mem_filterMap.mp hw
  have hm : w ∈ big := by first | exact List.mem_of_getElem? hi | exact List.getElem?_mem hi
  exact ⟨hm, good_of_word h1⟩
theorem goodIn_app {big a b : List Cond} (ha : GoodIn big a) (hb : GoodIn big b) : GoodIn big (a ++ b) := fun w h => (List.mem_append.mp h).elim (ha w) (hb w)
theorem goodIn_ca {big a b : List Cond} {c : Cond} (ha : GoodIn big (c :: a)) (hb : GoodIn big b) : GoodIn big (c :: (a ++ b)) := fun w h => (List.mem_cons.mp h).elim (fun e => ha w (List.mem_cons.mpr (Or.inl e))) (fun h => (List.mem_append.mp h).elim (fun h => ha w (List.mem_cons.mpr (Or.inr h))) (hb w))
theorem goodIn_sub {big ws : List Cond} (hm : ∀ w ∈ ws, w ∈ big) (h : ws.all goodWord = true) : GoodIn big ws := fun w hw => ⟨hm w hw, good_of_word (List.all_eq_true.mp h w hw)⟩
/-! ===== END ===== -/

/-! ===== BEGIN exceptions that leave a method, and their catching by the caller (launches without stack traces) ===== -/
section VXA
/-! The laws vx_back, vx_callV, vx_callS, vx_callSW, vx_throw0, vx_throwS follow proofs of the library, with one case more: JvmDerived/Free/Laws.lean (Back.of_free), Shelf42/LK1.lean (callV, callS), Shelf/KitTraced.lean (throwNew0V, throwNewS). -/
/-- where a method has thrown q: the class by its name, the cell, what was written, the world -/
def vx_T (XC : String → State → State → Prop) (st : State) (q : Addr) (t : State) (mc ms : Nat) (free : Addr → Prop) : Prop :=
  ∃ (E : String) (ce : Cell) (L : List Loc), XC E st t ∧ t.heap[q]? = some ce ∧ ce.vm = .none ∧ st.vm.findClass E = some ce.cls ∧ st.WarmedH t.vm ∧ st.sameButNew ({ t with vm := st.vm } : State) L mc ms ∧ ∀ z ∈ L, free z.base
def vx_Q (Qc : Array Value → State → Outcome → State → Prop) (XC : String → State → State → Prop) (mc ms : Nat) (free : Addr → Prop) : Array Value → State → Outcome → State → Prop := fun a st o t =>
  (Qc a st o t ∧ ∃ L, FrameEnd st o t L mc ms ∧ ∀ q ∈ L, free q.base) ∨ ∃ q, o = .threw q ∧ vx_T XC st q t mc ms free
/-- a callee that returns or throws -/
def vx_Met (l : Launch) (y : MethodName) (ws : List Cond) (rm : Room) (Pc : Array Value → State → Prop) (Qc : Array Value → State → Outcome → State → Prop) (XC : String → State → State → Prop) (mc ms : Nat) (free : Addr → Prop) : Prop :=
  MetFree l y (headSpec ws rm) Pc (fun _ _ _ _ _ => True) (vx_Q Qc XC mc ms free)
def vx_Post (XC : String → State → State → Prop) (mc ms : Nat) (free : Addr → Prop) : Pt → Array Value → Addr → Pt → Prop := fun A a q B =>
  ∃ (g : JFrame) (mk : MethodId) (t : State) (L : List Loc) (E : String) (ce : Cell), B.U.heap = t.heap ∧ B.U.vm = t.vm ∧ XC E (A.U.calling g mk a) t ∧ t.heap[q]? = some ce ∧ ce.vm = .none ∧ A.U.vm.findClass E = some ce.cls ∧ B.locs = A.locs ++ L ∧ (∀ z ∈ L, free z.base) ∧ B.cells = A.cells + mc ∧ B.slots = A.slots + ms
def vx_Back (l : Launch) (R : Room) (p : Program) (e : Env) (below : List Frame) (s : State) (sargs : Array Value) (y : MethodName) (len W9 : Nat)
    (Pre : Pt → Array Value → Prop) (Post : Pt → Array Value → Option Value → Pt → Prop) (PostX : Pt → Array Value → Addr → Pt → Prop) : Prop :=
  ∀ (m : MethodId) (meth : Method) (c : Code) (A : Pt) (g : JFrame) (ig : Instr) (mk : MethodId) (a : Array Value),
    Stand p l e R s m sargs below meth c A.U A.locs A.cells A.slots → g.method = m → g.locals.size = c.maxLocals → decode c.code g.pc = .ok (ig, len) →
    2 * g.monitorRoom + (g.stack.map fun v => v.category).sum ≤ W9 → A.U.methodNamed? y = some mk → Pre A a →
    (∃ (v : Option Value) (B : Pt), Stand p l e R s m sargs below meth c B.U B.locs B.cells B.slots ∧ Post A a v B ∧
      Steps p.tables e below (doInvoke e (A.U.setTop g) [] mk a).1 (B.U.setTop { g with pc := g.pc + len, stack := v.toList ++ g.stack })) ∨
    (∃ (q : Addr) (B : Pt), Stand p l e R s m sargs below meth c B.U B.locs B.cells B.slots ∧ PostX A a q B ∧
      Steps p.tables e below (doInvoke e (A.U.setTop g) [] mk a).1 ((B.U.setTop g).pushFrame (.throwing q)))
section Payer
variable {l : Launch} {R : Room} {p : Program} {e : Env} {below : List Frame} {s : State} {sargs : Array Value} {y : MethodName} {len W9 : Nat}
theorem vx_back {ws : List Cond} {rm : Room} {Pc : Array Value → State → Prop} {Qc : Array Value → State → Outcome → State → Prop} {XC : String → State → State → Prop} {mc ms : Nat} {free : Addr → Prop} {bytes : ByteArray} {maxL : Nat} {ret : Option FieldType}
    (hM : vx_Met l y ws rm Pc Qc XC mc ms free) (hblind : FrameBlind Pc) (hrc : rm.cells = mc) (hrs : rm.slots = ms)
    (hframes : rm.frames + 1 ≤ R.frames) (hlocals : W9 + (maxL + 11) + rm.locals ≤ R.locals)
    (hws : ∀ w ∈ ws, ∀ a' U, s.WarmedH U.vm → w.before a' U = true) (hcode : Cond.code y bytes maxL ret ∈ ws) (hinit : ∀ a' U, s.WarmedH U.vm → (Cond.initialized y.cls).before a' U = true) :
    vx_Back l R p e below s sargs y len W9 (PreOf R mc ms Pc) (PostOf Qc mc ms free) (vx_Post XC mc ms free) := by
  intro m meth c A g ig mk a X hg hsize hdg hW hn hp
  have h1 : (headSpec ws rm).pre.before a A.U = true := atoms_intro fun w hw => hws w hw _ _ X.warmed
  have h2 : (Cond.code y bytes maxL ret).before a A.U = true := hws _ hcode _ _ X.warmed
  have h3 : (Cond.initialized y.cls).before a A.U = true := hinit _ _ X.warmed
  have h4 : A.cells + (headSpec ws rm).room.cells ≤ R.cells := by rw [show (headSpec ws rm).room.cells = mc from hrc]; exact hp.1
  have h5 : A.slots + (headSpec ws rm).room.slots ≤ R.slots := by rw [show (headSpec ws rm).room.slots = ms from hrs]; exact hp.2.1
  have hPc : Pc a (A.U.calling g mk a) := hblind _ _ _ _ hp.2.2
  obtain ⟨U, Ls, c0, s0⟩ := A
  dsimp only [Pt.U, Pt.locs, Pt.cells, Pt.slots] at h1 h2 h3 h4 h5 X hn hPc ⊢
  obtain ⟨methY, cY, hmY, hcY, -, hlY, -, -, -, -⟩ := Cond.code_spec hn h2
  obtain ⟨kY, hkY, -⟩ := className_of_methodNamed hn
  have hinitY : kY.init = .initialized := Cond.initialized_spec (findClass_of_methodNamed hn) hkY h3
  have h : At U g.method c below := by rw [hg]; exact X.here
  have hlocals9 : W9 + (maxL + 11) + (headSpec ws rm).room.locals ≤ R.locals := hlocals
  have happ : (headSpec ws rm).appliesLoose y e.platform (U.calling g mk a) = true :=
    Spec.appliesLoose_calling (g := g) h hdg hn hkY hinitY
      (X.room_calling (g := g) (R' := (headSpec ws rm).room) hsize hmY hcY hframes (by rw [hlY]; omega) h4 h5) h1
  obtain ⟨mid, hmid⟩ := h.above
  have hfr : (U.setTop g).frames = (.java g :: mid) ++ below := by rw [State.frames_setTop' g h.top, hmid]; rfl
  obtain ⟨o, s₂, hsteps, -, hend, hq⟩ := Steps.callFree hM p X.admits X.cas X.clock (acts := []) hfr happ hPc trivial
  have hq' : vx_Q Qc XC mc ms free a (U.calling g mk a) o s₂ := hq
  rw [State.frames_setTop' g h.top] at hend
  obtain ⟨g₀, hg0⟩ := Option.isSome_iff_exists.mp h.top
  obtain ⟨r, hr⟩ := State.topJava?_eq_some.mp hg0
  have hr' : (({ U with heap := s₂.heap, slotsUsed := s₂.slotsUsed } : State).setVm s₂.vm).frames = .java g₀ :: r := hr
  rcases hq' with ⟨hqc, L, hfe, hL⟩ | ⟨q, rfl, E, ce, L, hx, hce, hcv, hcl, hW₂, hsm, hL⟩
  · obtain ⟨⟨v, rfl⟩, hW₂, e2, q2, q3, q4, q5, q6⟩ := id hfe
    have e3 : s₂ = ({ (U.calling g mk a).setFrames s₂.frames with heap := s₂.heap, slotsUsed := s₂.slotsUsed } : State).setVm s₂.vm := by
      have : s₂ = ({ s₂ with vm := (U.calling g mk a).vm } : State).setVm s₂.vm := rfl
      rw [e2] at this
      exact this
    obtain ⟨c₂, i₂, len₂, hc₂, hd₂, hf₂⟩ := hend
    have hW' : U.WarmedH s₂.vm := hW₂
    have hcc : c₂ = c := by
      have h1 : s₂.code? g.method = U.code? g.method := by
        rw [State.code?_eq, State.code?_eq, hW'.alike.method?]
      exact Option.some.inj (hc₂.symm.trans (h1.trans h.code))
    subst hcc
    have hlen : len₂ = len := by rw [hdg] at hd₂; cases hd₂; rfl
    subst hlen
    have hs₂ : s₂ = (({ U with heap := s₂.heap, slotsUsed := s₂.slotsUsed } : State).setVm s₂.vm).setTop { g with pc := g.pc + len₂, stack := v.toList ++ g.stack } := by
      refine e3.trans ?_
      rw [hf₂, State.calling_eq h.top, State.setFrames_setFrames, State.setTop_of_frames _ hr', hr]
      rfl
    have hsame : U.sameButNew ({ U with heap := s₂.heap, slotsUsed := s₂.slotsUsed } : State) L mc ms := by
      refine ⟨?_, q2, q3, q4, q5, q6⟩
      obtain ⟨t, ht, -⟩ := State.frames_cons hr
      show ({ U with heap := s₂.heap, slotsUsed := s₂.slotsUsed } : State) = { U.setFrames U.frames with heap := s₂.heap, slotsUsed := s₂.slotsUsed }
      rw [State.setFrames_self ht]
    subst hg
    refine Or.inl ⟨v, ⟨(({ U with heap := s₂.heap, slotsUsed := s₂.slotsUsed } : State).setVm s₂.vm), Ls ++ L, c0 + mc, s0 + ms⟩,
      ⟨X.admits, X.cas, X.clock, X.frames, X.room, X.hears, X.method, X.code, (X.here.setHeapUsed s₂.heap s₂.slotsUsed).setVm hW'.alike, X.tail, State.WarmedH.trans X.warmed hW', X.limits, X.bytes, X.same.trans (hsame.setVm s.vm)⟩,
      ⟨g, mk, s₂, L, rfl, rfl, hqc, rfl, hL, rfl, rfl⟩, ?_⟩
    show Steps p.tables e below _ ((({ U with heap := s₂.heap, slotsUsed := s₂.slotsUsed } : State).setVm s₂.vm).setTop { g with pc := g.pc + len₂, stack := v.toList ++ g.stack })
    rw [← hs₂]
    exact hsteps
  · obtain ⟨e2, q2, q3, q4, q5, q6⟩ := id hsm
    have e3 : s₂ = ({ (U.calling g mk a).setFrames s₂.frames with heap := s₂.heap, slotsUsed := s₂.slotsUsed } : State).setVm s₂.vm := by
      have : s₂ = ({ s₂ with vm := (U.calling g mk a).vm } : State).setVm s₂.vm := rfl
      rw [e2] at this
      exact this
    have hf₂ : s₂.frames = .throwing q :: .java g :: U.frames.tail := hend
    have hW' : U.WarmedH s₂.vm := hW₂
    have hs₂ : s₂ = ((({ U with heap := s₂.heap, slotsUsed := s₂.slotsUsed } : State).setVm s₂.vm).setTop g).pushFrame (.throwing q) := by
      refine e3.trans ?_
      rw [hf₂, State.calling_eq h.top, State.setFrames_setFrames, State.pushFrame, State.frames_setTop _ hr', State.setTop_of_frames _ hr', State.setFrames_setFrames, hr]
      rfl
    have hsame : U.sameButNew ({ U with heap := s₂.heap, slotsUsed := s₂.slotsUsed } : State) L mc ms := by
      refine ⟨?_, q2, q3, q4, q5, q6⟩
      obtain ⟨t, ht, -⟩ := State.frames_cons hr
      show ({ U with heap := s₂.heap, slotsUsed := s₂.slotsUsed } : State) = { U.setFrames U.frames with heap := s₂.heap, slotsUsed := s₂.slotsUsed }
      rw [State.setFrames_self ht]
    subst hg
    refine Or.inr ⟨q, ⟨(({ U with heap := s₂.heap, slotsUsed := s₂.slotsUsed } : State).setVm s₂.vm), Ls ++ L, c0 + mc, s0 + ms⟩,
      ⟨X.admits, X.cas, X.clock, X.frames, X.room, X.hears, X.method, X.code, (X.here.setHeapUsed s₂.heap s₂.slotsUsed).setVm hW'.alike, X.tail, State.WarmedH.trans X.warmed hW', X.limits, X.bytes, X.same.trans (hsame.setVm s.vm)⟩,
      ⟨g, mk, s₂, L, E, ce, rfl, rfl, hx, hce, hcv, hcl, rfl, hL, rfl, rfl⟩, ?_⟩
    show Steps p.tables e below _ (((({ U with heap := s₂.heap, slotsUsed := s₂.slotsUsed } : State).setVm s₂.vm).setTop g).pushFrame (.throwing q))
    rw [← hs₂]
    exact hsteps
end Payer
section Calls
variable {p : Program} {l : Launch} {e : Env} {R : Room} {s : State} {m : MethodId} {args : Array Value} {below : List Frame} {meth : Method} {c : Code} {T : State} {locs : List Loc} {cells slots : Nat}
theorem vx_callV (X : Stand p l e R s m args below meth c T locs cells slots) (hexec : p.tables.exec = Jvm.exec) {own C : String} {index : Nat} {y : MethodName} {bytes : ByteArray} {maxL : Nat} {ret : Option FieldType}
    (hown : s.vm.findClass own = some m.cls) (hlink : (Cond.methodLink own index y).before args s = true) (hinst : (Cond.instanceMethod y).before args s = true) (hsel : (Cond.selects C y y).before args s = true)
    (hcode : (Cond.code y bytes maxL ret).before args s = true) (hy : y.cls ≠ "java/lang/invoke/MethodHandle" ∧ y.cls ≠ "java/lang/invoke/VarHandle")
    {W9 : Nat} {Pre : Pt → Array Value → Prop} {Post : Pt → Array Value → Option Value → Pt → Prop} {PostX : Pt → Array Value → Addr → Pt → Prop} (hK : vx_Back l R p e below s args y 3 W9 Pre Post PostX)
    {b : Addr} {cellB : Cell} (hcell : T.heap[b]? = some cellB) (hobj : cellB.vm.isStatics = false) (hcls : s.vm.findClass C = some cellB.cls)
    {g : JFrame} (hg : g.method = m) (hsize : g.locals.size = c.maxLocals) {argsL rest : List Value} (hlen : ∀ sig, parseMethodDescriptor y.desc = some sig → argsL.length = sig.parameters.length)
    (hstack : g.stack = argsL.reverse ++ .ref b :: rest) (hW : 2 * g.monitorRoom + (rest.map fun v => v.category).sum ≤ W9) (hdg : decode c.code g.pc = .ok (.invokevirtual index, 3))
    (hpre : ∀ vm₁, s.WarmedH vm₁ → Pre ⟨T.setVm vm₁, locs, cells, slots⟩ (Value.ref b :: argsL).toArray) :
    (∃ (v : Option Value) (vm₁ : Vm) (B : Pt), s.WarmedH vm₁ ∧ Stand p l e R s m args below meth c B.U B.locs B.cells B.slots ∧ Post ⟨T.setVm vm₁, locs, cells, slots⟩ (Value.ref b :: argsL).toArray v B ∧
      ∀ target, Steps p.tables e below (B.U.setTop { g with pc := g.pc + 3, stack := v.toList ++ rest }) target → Steps p.tables e below (T.setTop g) target) ∨
    (∃ (q : Addr) (vm₁ : Vm) (B : Pt), s.WarmedH vm₁ ∧ Stand p l e R s m args below meth c B.U B.locs B.cells B.slots ∧ PostX ⟨T.setVm vm₁, locs, cells, slots⟩ (Value.ref b :: argsL).toArray q B ∧
      Steps p.tables e below (T.setTop g) ((B.U.setTop { g with stack := rest }).pushFrame (.throwing q))) := by
  obtain ⟨mk, methM, hnamed, hmethM, hstM, habM⟩ := Cond.instanceMethod_spec hinst
  obtain ⟨methM', cM, hmethM', -, -, -, -, -, -, hsigM⟩ := Cond.code_spec hnamed hcode
  cases hmethM.symm.trans hmethM'
  obtain ⟨c2, r2, m2, q1, q2, q3, q4, kP, hkP, hkPi⟩ := Cond.selects_spec hsel
  cases hcls.symm.trans q1
  cases (State.methodFound?_of_named hnamed hy).symm.trans q2
  cases hnamed.symm.trans q3
  have hselP : selectMethod e.platform s.vm cellB.cls mk = .method mk := by rw [Launch.admits_selectMethod X.admits]; exact q4
  obtain ⟨vm₁, X₁, hstep₁⟩ := X.invokevirtual hexec hown hlink hnamed hmethM hstM hkP hkPi hy (a := b) (cell := cellB) hcell
    (fun z h => by rw [h] at hobj; cases hobj) hselP hmethM habM hkP hkPi (g := g) hg (argsL := argsL) (rest := rest) (hlen _ hsigM) hstack hdg
  rcases hK m meth c ⟨T.setVm vm₁, locs, cells, slots⟩ { g with stack := rest } (.invokevirtual index) mk (Value.ref b :: argsL).toArray X₁ hg hsize hdg hW (X₁.named hnamed) (hpre vm₁ X₁.warmed) with ⟨v, B, X', hpost, hsteps⟩ | ⟨q, B, X', hpost, hsteps⟩
  · exact Or.inl ⟨v, vm₁, B, X₁.warmed, X', hpost, fun target h => hstep₁ _ fun acts => by rw [doInvoke_state]; exact hsteps.trans h⟩
  · exact Or.inr ⟨q, vm₁, B, X₁.warmed, X', hpost, hstep₁ _ fun acts => by rw [doInvoke_state]; exact hsteps⟩
theorem vx_callS (X : Stand p l e R s m args below meth c T locs cells slots) (hexec : p.tables.exec = Jvm.exec) {own : String} {index : Nat} {y : MethodName} {bytes : ByteArray} {maxL : Nat} {ret : Option FieldType}
    (hown : s.vm.findClass own = some m.cls) (hlink : (Cond.methodLink own index y).before args s = true) (hstat : (Cond.static y).before args s = true) (hinit : (Cond.initialized y.cls).before args s = true)
    (hcode : (Cond.code y bytes maxL ret).before args s = true) (hy : y.cls ≠ "java/lang/invoke/MethodHandle" ∧ y.cls ≠ "java/lang/invoke/VarHandle")
    {W9 : Nat} {Pre : Pt → Array Value → Prop} {Post : Pt → Array Value → Option Value → Pt → Prop} {PostX : Pt → Array Value → Addr → Pt → Prop} (hK : vx_Back l R p e below s args y 3 W9 Pre Post PostX)
    {g : JFrame} (hg : g.method = m) (hsize : g.locals.size = c.maxLocals) {argsL rest : List Value} (hlen : ∀ sig, parseMethodDescriptor y.desc = some sig → argsL.length = sig.parameters.length)
    (hstack : g.stack = argsL.reverse ++ rest) (hW : 2 * g.monitorRoom + (rest.map fun v => v.category).sum ≤ W9) (hdg : decode c.code g.pc = .ok (.invokestatic index, 3))
    (hpre : ∀ vm₁, s.WarmedH vm₁ → Pre ⟨T.setVm vm₁, locs, cells, slots⟩ argsL.toArray) :
    (∃ (v : Option Value) (vm₁ : Vm) (B : Pt), s.WarmedH vm₁ ∧ Stand p l e R s m args below meth c B.U B.locs B.cells B.slots ∧ Post ⟨T.setVm vm₁, locs, cells, slots⟩ argsL.toArray v B ∧
      ∀ target, Steps p.tables e below (B.U.setTop { g with pc := g.pc + 3, stack := v.toList ++ rest }) target → Steps p.tables e below (T.setTop g) target) ∨
    (∃ (q : Addr) (vm₁ : Vm) (B : Pt), s.WarmedH vm₁ ∧ Stand p l e R s m args below meth c B.U B.locs B.cells B.slots ∧ PostX ⟨T.setVm vm₁, locs, cells, slots⟩ argsL.toArray q B ∧
      Steps p.tables e below (T.setTop g) ((B.U.setTop { g with stack := rest }).pushFrame (.throwing q))) := by
  obtain ⟨mk, hnamed⟩ := Cond.code_named hcode
  obtain ⟨methM, cM, hmethM, -, -, -, -, -, -, hsigM⟩ := Cond.code_spec hnamed hcode
  have hstatic : methM.isStatic = true := Cond.static_spec hnamed hmethM hstat
  obtain ⟨kP, hkP, -⟩ := className_of_methodNamed hnamed
  have hinitP : kP.init = .initialized := Cond.initialized_spec (findClass_of_methodNamed hnamed) hkP hinit
  obtain ⟨vm₁, X₁, hstep₁⟩ := X.invokestatic hexec hown hlink hnamed hmethM hstatic hkP hinitP hy (g := g) hg (argsL := argsL) (rest := rest) (hlen _ hsigM) hstack hdg
  rcases hK m meth c ⟨T.setVm vm₁, locs, cells, slots⟩ { g with stack := rest } (.invokestatic index) mk argsL.toArray X₁ hg hsize hdg hW (X₁.named hnamed) (hpre vm₁ X₁.warmed) with ⟨v, B, X', hpost, hsteps⟩ | ⟨q, B, X', hpost, hsteps⟩
  · exact Or.inl ⟨v, vm₁, B, X₁.warmed, X', hpost, fun target h => hstep₁ _ fun acts => by rw [doInvoke_state]; exact hsteps.trans h⟩
  · exact Or.inr ⟨q, vm₁, B, X₁.warmed, X', hpost, hstep₁ _ fun acts => by rw [doInvoke_state]; exact hsteps⟩
end Calls
theorem vx_cls {s : State} {T : State} {vm₁ : Vm} {E : String} {k : ClassId} (hW : s.WarmedH vm₁) (h : (T.setVm vm₁).vm.findClass E = some k) : s.vm.findClass E = some k := by
  have h1 : vm₁.findClass E = some k := h
  rw [hW.alike.findClass] at h1
  exact h1
/-- the method's frame g, with q thrown over it -/
def vx_W (p : Program) (l : Launch) (e : Env) (R : Room) (s : State) (m : MethodId) (args : Array Value) (below : List Frame) (meth : Method) (c : Code) (H : Heap) (locs : List Loc) (cells slots : Nat) (Q : State → Prop) (g : JFrame) (q : Addr) : Prop :=
  ∀ T : State, T.heap = H → Stand p l e R s m args below meth c T locs cells slots → ∃ t, Steps p.tables e below ((T.setTop g).pushFrame (.throwing q)) t ∧ Q t
def vx_Run (p : Program) (l : Launch) (e : Env) (R : Room) (s : State) (m : MethodId) (args : Array Value) (below : List Frame) (meth : Method) (c : Code) (H : Heap) (locs : List Loc) (cells slots mc ms : Nat) (g : JFrame) (rest : List Value) (Qa : State → Outcome → State → Prop) (XC : String → State → State → Prop) (free : Addr → Prop) : Prop :=
  ∀ T : State, T.heap = H → Stand p l e R s m args below meth c T locs cells slots →
    (∃ (v : Option Value) (st₀ t T' : State) (L : List Loc), st₀.heap = H ∧ Stand p l e R s m args below meth c T' (locs ++ L) (cells + mc) (slots + ms) ∧ (∀ q ∈ L, free q.base) ∧ T'.heap = t.heap ∧ T'.vm = t.vm ∧ Qa st₀ (.returned v) t ∧
      Goes p e below T g T' { g with pc := g.pc + 3, stack := v.toList ++ rest }) ∨
    (∃ (q : Addr) (st₀ t T' : State) (L : List Loc) (E : String) (ce : Cell), st₀.heap = H ∧ Stand p l e R s m args below meth c T' (locs ++ L) (cells + mc) (slots + ms) ∧ (∀ z ∈ L, free z.base) ∧ T'.heap = t.heap ∧ T'.vm = t.vm ∧ XC E st₀ t ∧ t.heap[q]? = some ce ∧ ce.vm = .none ∧ s.vm.findClass E = some ce.cls ∧
      Steps p.tables e below (T.setTop g) ((T'.setTop { g with stack := rest }).pushFrame (.throwing q)))
def vx_X {S : Type} (px : S → Prop) (B : String → S → State → Prop) (A : Nat → Prop) : String → State → State → Prop := fun E st t => ∃ u : S, px u ∧ B E u t ∧ va_F A st t
section Runs
variable {p : Program} {l : Launch} {e : Env} {R : Room} {s : State} {m : MethodId} {args : Array Value} {below : List Frame} {meth : Method} {c : Code} {H : Heap} {locs : List Loc} {cells slots : Nat}
variable {y : MethodName} {bytes cc : ByteArray} {maxL nL mc ms n index : Nat} {ret : Option FieldType} {ws : List Cond} {rm : Room} {Pc : Array Value → State → Prop} {Qc : Array Value → State → Outcome → State → Prop} {XC : String → State → State → Prop} {free : Addr → Prop} {Ts : List Cond} {own C : String} {b : Addr} {As rest : List Value} {g : JFrame}
theorem vx_callBack (cb : CallB R s args own index y bytes maxL ret ws rm mc ms n) (hM : vx_Met l y ws rm Pc Qc XC mc ms free) (hbl : FrameBlind Pc) : vx_Back l R p e below s args y 3 8 (PreOf R mc ms Pc) (PostOf Qc mc ms free) (vx_Post XC mc ms free) := by
  obtain ⟨hrc, hrs, hfr, hlo, hws, hcw, -, hini, -⟩ := cb
  exact vx_back (bytes := bytes) (maxL := maxL) (ret := ret) hM hbl hrc hrs hfr hlo hws hcw (fun a' U hW => word_at hW (Or.inl (by first | rfl | simp [Cond.onTables, Cond.keeps, Cond.steady])) hini)
theorem vx_runV (S : CallFix p m c cc nL s args Ts own) (hM : vx_Met l y ws rm Pc Qc XC mc ms free) (cw : CallW R s args own C index y bytes maxL ret ws rm mc ms n) (hp : PreV s H C b Pc As)
    (hg : g.method = m) (hn : As.length = n) (hsize : g.locals.size = nL) (hstack : g.stack = As.reverse ++ .ref b :: rest) (hW : 2 * g.monitorRoom + (rest.map fun v => v.category).sum ≤ 8) (hdg : decode cc g.pc = .ok (.invokevirtual index, 3)) (hf : cells + mc ≤ R.cells ∧ slots + ms ≤ R.slots) :
    vx_Run p l e R s m args below meth c H locs cells slots mc ms g rest (Qc (Value.ref b :: As).toArray) XC free := by
  have hK : vx_Back l R p e below s args y 3 8 (PreOf R mc ms Pc) (PostOf Qc mc ms free) (vx_Post XC mc ms free) := vx_callBack cw.1 hM hp.1
  obtain ⟨⟨-, -, -, -, -, -, hcode, -, hy, hlen, hl⟩, hin, hse⟩ := cw
  obtain ⟨hx, hb, hml, ho, -⟩ := S
  obtain ⟨-, ⟨cellB, hcB, hoB, hclB⟩, hPc⟩ := hp
  intro T hT X
  rcases vx_callV X hx (C := C) (bytes := bytes) (maxL := maxL) (ret := ret) ho hl hin hse hcode hy hK (by rw [hT]; exact hcB) hoB hclB hg (hsize.trans hml.symm) (argsL := As) (rest := rest) (fun sig h => hn.trans (hlen sig h)) hstack hW (by rw [hb]; exact hdg)
    (fun vm₁ hW₁ => ⟨hf.1, hf.2, hPc (T.setVm vm₁) hT hW₁⟩) with ⟨v, vm₁, ⟨U', l2, c2, s2⟩, hW₁, X', ⟨g', mk, t, L, e1, e2, hq, h1, hL, h2, h3⟩, st⟩ | ⟨q, vm₁, ⟨U', l2, c2, s2⟩, hW₁, X', ⟨g', mk, t, L, E, ce, e1, e2, hq, hce, hcv, hcl, h1, hL, h2, h3⟩, st⟩
  · dsimp only [Pt.U, Pt.locs, Pt.cells, Pt.slots] at X' e1 e2 h1 h2 h3 st
    subst h1; subst h2; subst h3
    exact Or.inl ⟨v, (T.setVm vm₁).calling g' mk (Value.ref b :: As).toArray, t, U', L, hT, X', hL, e1, e2, hq, st⟩
  · dsimp only [Pt.U, Pt.locs, Pt.cells, Pt.slots] at X' e1 e2 h1 h2 h3 st hcl
    subst h1; subst h2; subst h3
    exact Or.inr ⟨q, (T.setVm vm₁).calling g' mk (Value.ref b :: As).toArray, t, U', L, E, ce, hT, X', hL, e1, e2, hq, hce, hcv, vx_cls hW₁ hcl, st⟩
theorem vx_runS (S : CallFix p m c cc nL s args Ts own) (hM : vx_Met l y ws rm Pc Qc XC mc ms free) (cw : CallB R s args own index y bytes maxL ret ws rm mc ms n ∧ (Cond.static y).before args s = true) (hp : PreS s H Pc As)
    (hg : g.method = m) (hn : As.length = n) (hsize : g.locals.size = nL) (hstack : g.stack = As.reverse ++ rest) (hW : 2 * g.monitorRoom + (rest.map fun v => v.category).sum ≤ 8) (hdg : decode cc g.pc = .ok (.invokestatic index, 3)) (hf : cells + mc ≤ R.cells ∧ slots + ms ≤ R.slots) :
    vx_Run p l e R s m args below meth c H locs cells slots mc ms g rest (Qc As.toArray) XC free := by
  have hK : vx_Back l R p e below s args y 3 8 (PreOf R mc ms Pc) (PostOf Qc mc ms free) (vx_Post XC mc ms free) := vx_callBack cw.1 hM hp.1
  obtain ⟨⟨-, -, -, -, -, -, hcode, hini, hy, hlen, hl⟩, hstt⟩ := cw
  obtain ⟨hx, hb, hml, ho, -⟩ := S
  intro T hT X
  rcases vx_callS X hx (bytes := bytes) (maxL := maxL) (ret := ret) ho hl hstt hini hcode hy hK hg (hsize.trans hml.symm) (argsL := As) (rest := rest) (fun sig h => hn.trans (hlen sig h)) hstack hW (by rw [hb]; exact hdg)
    (fun vm₁ hW₁ => ⟨hf.1, hf.2, hp.2 (T.setVm vm₁) hT hW₁⟩) with ⟨v, vm₁, ⟨U', l2, c2, s2⟩, hW₁, X', ⟨g', mk, t, L, e1, e2, hq, h1, hL, h2, h3⟩, st⟩ | ⟨q, vm₁, ⟨U', l2, c2, s2⟩, hW₁, X', ⟨g', mk, t, L, E, ce, e1, e2, hq, hce, hcv, hcl, h1, hL, h2, h3⟩, st⟩
  · dsimp only [Pt.U, Pt.locs, Pt.cells, Pt.slots] at X' e1 e2 h1 h2 h3 st
    subst h1; subst h2; subst h3
    exact Or.inl ⟨v, (T.setVm vm₁).calling g' mk As.toArray, t, U', L, hT, X', hL, e1, e2, hq, st⟩
  · dsimp only [Pt.U, Pt.locs, Pt.cells, Pt.slots] at X' e1 e2 h1 h2 h3 st hcl
    subst h1; subst h2; subst h3
    exact Or.inr ⟨q, (T.setVm vm₁).calling g' mk As.toArray, t, U', L, E, ce, hT, X', hL, e1, e2, hq, hce, hcv, vx_cls hW₁ hcl, st⟩
end Runs
section Rows
variable {p : Program} {l : Launch} {e : Env} {R : Room} {s : State} {m : MethodId} {args : Array Value} {below : List Frame} {meth : Method} {c : Code} {H : Heap} {locs : List Loc} {cells slots : Nat} {Q : State → Prop}
variable {mc ms : Nat} {free : Addr → Prop} {A0 A1 : Nat → Prop} {H0 : Heap} {a : Array Value} {pc : Nat} {ls : Array Slot} {st0 rest : List Value}
theorem vx_keep {st₀ t T' : State} {L : List Loc} (h0 : st₀.heap = H) (e1 : T'.heap = t.heap) (hS : va_S A0 H0 H locs) (hA : ∀ q, q < H.size → A1 q → A0 q) (hf : ∀ q, free q → A0 q) (hL : ∀ q ∈ L, free q.base) (hF : va_F A1 st₀ t) :
    H.size ≤ T'.heap.size ∧ (∀ q : Nat, q < H.size → ¬ A1 q → T'.heap[q]? = H[q]?) ∧ va_S A0 H0 T'.heap (locs ++ L) := by
  obtain ⟨hz, hk⟩ := hF
  rw [h0] at hz hk
  exact ⟨by rw [e1]; exact hz, fun q h1 h2 => by rw [e1]; exact hk q h1 h2,
    ⟨Nat.le_trans hS.1 (by rw [e1]; exact hz), fun q h1 h2 => by rw [e1, hk q (Nat.lt_of_lt_of_le h1 hS.1) (fun z => h2 (hA q (Nat.lt_of_lt_of_le h1 hS.1) z))]; exact hS.2.1 q h1 h2, fun q hq => by
      rcases List.mem_append.mp hq with h | h
      · exact hS.2.2 q h
      · exact hf _ (hL q h)⟩⟩
theorem vx_calli {S SX : Type} {post : Int32 → S → Prop} {px : SX → Prop} {B : S → State → Prop} {BX : String → SX → State → Prop} {AX : Nat → Prop} (hr : vx_Run p l e R s m args below meth c H locs cells slots mc ms (F0 m pc ls st0) rest (va_Qi post B A1 a) (vx_X px BX AX) free) (hS : va_S A0 H0 H locs) (hA : ∀ q, q < H.size → A1 q → A0 q) (hf : ∀ q, free q → A0 q) (hAX : ∀ q, q < H.size → AX q → A0 q)
    (kx : ∀ (E : String) (ce : Cell) (q9 : Addr) (u : SX) (t : State) (H1 : Heap) (locs1 : List Loc), t.heap = H1 → s.vm.Alike t.vm → px u → BX E u t → H.size ≤ H1.size → (∀ q : Nat, q < H.size → ¬ AX q → H1[q]? = H[q]?) → va_S A0 H0 H1 locs1 → H1[q9]? = some ce → ce.vm = .none → s.vm.findClass E = some ce.cls → vx_W p l e R s m args below meth c H1 locs1 (cells + mc) (slots + ms) Q (F0 m pc ls rest) q9)
    (kk : ∀ (r : Int32) (u : S) (t : State) (H1 : Heap) (locs1 : List Loc), t.heap = H1 → s.vm.Alike t.vm → post r u → B u t → H.size ≤ H1.size → (∀ q : Nat, q < H.size → ¬ A1 q → H1[q]? = H[q]?) → va_S A0 H0 H1 locs1 → W p l e R s m args below meth c H1 locs1 (cells + mc) (slots + ms) Q (F0 m (pc + 3) ls (.int r :: rest))) : W p l e R s m args below meth c H locs cells slots Q (F0 m pc ls st0) := by
  intro T hT X
  rcases hr T hT X with ⟨v, st₀, t, T', L, h0, X', hL, e1, e2, ⟨⟨r, u, hv, hp, hb⟩, hF⟩, st⟩ | ⟨q, st₀, t, T', L, E, ce, h0, X', hL, e1, e2, ⟨u, hp, hb, hF⟩, hce, hcv, hcl, st⟩
  · cases hv
    obtain ⟨k1, k2, k3⟩ := vx_keep h0 e1 hS hA hf hL hF
    obtain ⟨t2, a1, b1⟩ := kk r u t T'.heap (locs ++ L) e1.symm (by rw [← e2]; exact X'.warmed.alike) hp hb k1 k2 k3 T' rfl X'
    exact ⟨t2, st t2 a1, b1⟩
  · obtain ⟨k1, k2, k3⟩ := vx_keep h0 e1 hS hAX hf hL hF
    obtain ⟨t2, a1, b1⟩ := kx E ce q u t T'.heap (locs ++ L) e1.symm (by rw [← e2]; exact X'.warmed.alike) hp hb k1 k2 k3 (by rw [e1]; exact hce) hcv hcl T' rfl X'
    exact ⟨t2, st.trans a1, b1⟩
theorem vx_calll {S SX : Type} {post : Int64 → S → Prop} {px : SX → Prop} {B : S → State → Prop} {BX : String → SX → State → Prop} {AX : Nat → Prop} (hr : vx_Run p l e R s m args below meth c H locs cells slots mc ms (F0 m pc ls st0) rest (va_Ql post B A1 a) (vx_X px BX AX) free) (hS : va_S A0 H0 H locs) (hA : ∀ q, q < H.size → A1 q → A0 q) (hf : ∀ q, free q → A0 q) (hAX : ∀ q, q < H.size → AX q → A0 q)
    (kx : ∀ (E : String) (ce : Cell) (q9 : Addr) (u : SX) (t : State) (H1 : Heap) (locs1 : List Loc), t.heap = H1 → s.vm.Alike t.vm → px u → BX E u t → H.size ≤ H1.size → (∀ q : Nat, q < H.size → ¬ AX q → H1[q]? = H[q]?) → va_S A0 H0 H1 locs1 → H1[q9]? = some ce → ce.vm = .none → s.vm.findClass E = some ce.cls → vx_W p l e R s m args below meth c H1 locs1 (cells + mc) (slots + ms) Q (F0 m pc ls rest) q9)
    (kk : ∀ (r : Int64) (u : S) (t : State) (H1 : Heap) (locs1 : List Loc), t.heap = H1 → s.vm.Alike t.vm → post r u → B u t → H.size ≤ H1.size → (∀ q : Nat, q < H.size → ¬ A1 q → H1[q]? = H[q]?) → va_S A0 H0 H1 locs1 → W p l e R s m args below meth c H1 locs1 (cells + mc) (slots + ms) Q (F0 m (pc + 3) ls (.long r :: rest))) : W p l e R s m args below meth c H locs cells slots Q (F0 m pc ls st0) := by
  intro T hT X
  rcases hr T hT X with ⟨v, st₀, t, T', L, h0, X', hL, e1, e2, ⟨⟨r, u, hv, hp, hb⟩, hF⟩, st⟩ | ⟨q, st₀, t, T', L, E, ce, h0, X', hL, e1, e2, ⟨u, hp, hb, hF⟩, hce, hcv, hcl, st⟩
  · cases hv
    obtain ⟨k1, k2, k3⟩ := vx_keep h0 e1 hS hA hf hL hF
    obtain ⟨t2, a1, b1⟩ := kk r u t T'.heap (locs ++ L) e1.symm (by rw [← e2]; exact X'.warmed.alike) hp hb k1 k2 k3 T' rfl X'
    exact ⟨t2, st t2 a1, b1⟩
  · obtain ⟨k1, k2, k3⟩ := vx_keep h0 e1 hS hAX hf hL hF
    obtain ⟨t2, a1, b1⟩ := kx E ce q u t T'.heap (locs ++ L) e1.symm (by rw [← e2]; exact X'.warmed.alike) hp hb k1 k2 k3 (by rw [e1]; exact hce) hcv hcl T' rfl X'
    exact ⟨t2, st.trans a1, b1⟩
theorem vx_callf {S SX : Type} {post : UInt32 → S → Prop} {px : SX → Prop} {B : S → State → Prop} {BX : String → SX → State → Prop} {AX : Nat → Prop} (hr : vx_Run p l e R s m args below meth c H locs cells slots mc ms (F0 m pc ls st0) rest (va_Qf post B A1 a) (vx_X px BX AX) free) (hS : va_S A0 H0 H locs) (hA : ∀ q, q < H.size → A1 q → A0 q) (hf : ∀ q, free q → A0 q) (hAX : ∀ q, q < H.size → AX q → A0 q)
    (kx : ∀ (E : String) (ce : Cell) (q9 : Addr) (u : SX) (t : State) (H1 : Heap) (locs1 : List Loc), t.heap = H1 → s.vm.Alike t.vm → px u → BX E u t → H.size ≤ H1.size → (∀ q : Nat, q < H.size → ¬ AX q → H1[q]? = H[q]?) → va_S A0 H0 H1 locs1 → H1[q9]? = some ce → ce.vm = .none → s.vm.findClass E = some ce.cls → vx_W p l e R s m args below meth c H1 locs1 (cells + mc) (slots + ms) Q (F0 m pc ls rest) q9)
    (kk : ∀ (r : UInt32) (u : S) (t : State) (H1 : Heap) (locs1 : List Loc), t.heap = H1 → s.vm.Alike t.vm → post r u → B u t → H.size ≤ H1.size → (∀ q : Nat, q < H.size → ¬ A1 q → H1[q]? = H[q]?) → va_S A0 H0 H1 locs1 → W p l e R s m args below meth c H1 locs1 (cells + mc) (slots + ms) Q (F0 m (pc + 3) ls (.float r :: rest))) : W p l e R s m args below meth c H locs cells slots Q (F0 m pc ls st0) := by
  intro T hT X
  rcases hr T hT X with ⟨v, st₀, t, T', L, h0, X', hL, e1, e2, ⟨⟨r, u, hv, hp, hb⟩, hF⟩, st⟩ | ⟨q, st₀, t, T', L, E, ce, h0, X', hL, e1, e2, ⟨u, hp, hb, hF⟩, hce, hcv, hcl, st⟩
  · cases hv
    obtain ⟨k1, k2, k3⟩ := vx_keep h0 e1 hS hA hf hL hF
    obtain ⟨t2, a1, b1⟩ := kk r u t T'.heap (locs ++ L) e1.symm (by rw [← e2]; exact X'.warmed.alike) hp hb k1 k2 k3 T' rfl X'
    exact ⟨t2, st t2 a1, b1⟩
  · obtain ⟨k1, k2, k3⟩ := vx_keep h0 e1 hS hAX hf hL hF
    obtain ⟨t2, a1, b1⟩ := kx E ce q u t T'.heap (locs ++ L) e1.symm (by rw [← e2]; exact X'.warmed.alike) hp hb k1 k2 k3 (by rw [e1]; exact hce) hcv hcl T' rfl X'
    exact ⟨t2, st.trans a1, b1⟩
theorem vx_calld {S SX : Type} {post : UInt64 → S → Prop} {px : SX → Prop} {B : S → State → Prop} {BX : String → SX → State → Prop} {AX : Nat → Prop} (hr : vx_Run p l e R s m args below meth c H locs cells slots mc ms (F0 m pc ls st0) rest (va_Qd post B A1 a) (vx_X px BX AX) free) (hS : va_S A0 H0 H locs) (hA : ∀ q, q < H.size → A1 q → A0 q) (hf : ∀ q, free q → A0 q) (hAX : ∀ q, q < H.size → AX q → A0 q)
    (kx : ∀ (E : String) (ce : Cell) (q9 : Addr) (u : SX) (t : State) (H1 : Heap) (locs1 : List Loc), t.heap = H1 → s.vm.Alike t.vm → px u → BX E u t → H.size ≤ H1.size → (∀ q : Nat, q < H.size → ¬ AX q → H1[q]? = H[q]?) → va_S A0 H0 H1 locs1 → H1[q9]? = some ce → ce.vm = .none → s.vm.findClass E = some ce.cls → vx_W p l e R s m args below meth c H1 locs1 (cells + mc) (slots + ms) Q (F0 m pc ls rest) q9)
    (kk : ∀ (r : UInt64) (u : S) (t : State) (H1 : Heap) (locs1 : List Loc), t.heap = H1 → s.vm.Alike t.vm → post r u → B u t → H.size ≤ H1.size → (∀ q : Nat, q < H.size → ¬ A1 q → H1[q]? = H[q]?) → va_S A0 H0 H1 locs1 → W p l e R s m args below meth c H1 locs1 (cells + mc) (slots + ms) Q (F0 m (pc + 3) ls (.double r :: rest))) : W p l e R s m args below meth c H locs cells slots Q (F0 m pc ls st0) := by
  intro T hT X
  rcases hr T hT X with ⟨v, st₀, t, T', L, h0, X', hL, e1, e2, ⟨⟨r, u, hv, hp, hb⟩, hF⟩, st⟩ | ⟨q, st₀, t, T', L, E, ce, h0, X', hL, e1, e2, ⟨u, hp, hb, hF⟩, hce, hcv, hcl, st⟩
  · cases hv
    obtain ⟨k1, k2, k3⟩ := vx_keep h0 e1 hS hA hf hL hF
    obtain ⟨t2, a1, b1⟩ := kk r u t T'.heap (locs ++ L) e1.symm (by rw [← e2]; exact X'.warmed.alike) hp hb k1 k2 k3 T' rfl X'
    exact ⟨t2, st t2 a1, b1⟩
  · obtain ⟨k1, k2, k3⟩ := vx_keep h0 e1 hS hAX hf hL hF
    obtain ⟨t2, a1, b1⟩ := kx E ce q u t T'.heap (locs ++ L) e1.symm (by rw [← e2]; exact X'.warmed.alike) hp hb k1 k2 k3 (by rw [e1]; exact hce) hcv hcl T' rfl X'
    exact ⟨t2, st.trans a1, b1⟩
theorem vx_callv {S SX : Type} {post : S → Prop} {px : SX → Prop} {B : S → State → Prop} {BX : String → SX → State → Prop} {AX : Nat → Prop} (hr : vx_Run p l e R s m args below meth c H locs cells slots mc ms (F0 m pc ls st0) rest (va_Qv post B A1 a) (vx_X px BX AX) free) (hS : va_S A0 H0 H locs) (hA : ∀ q, q < H.size → A1 q → A0 q) (hf : ∀ q, free q → A0 q) (hAX : ∀ q, q < H.size → AX q → A0 q)
    (kx : ∀ (E : String) (ce : Cell) (q9 : Addr) (u : SX) (t : State) (H1 : Heap) (locs1 : List Loc), t.heap = H1 → s.vm.Alike t.vm → px u → BX E u t → H.size ≤ H1.size → (∀ q : Nat, q < H.size → ¬ AX q → H1[q]? = H[q]?) → va_S A0 H0 H1 locs1 → H1[q9]? = some ce → ce.vm = .none → s.vm.findClass E = some ce.cls → vx_W p l e R s m args below meth c H1 locs1 (cells + mc) (slots + ms) Q (F0 m pc ls rest) q9)
    (kk : ∀ (u : S) (t : State) (H1 : Heap) (locs1 : List Loc), t.heap = H1 → s.vm.Alike t.vm → post u → B u t → H.size ≤ H1.size → (∀ q : Nat, q < H.size → ¬ A1 q → H1[q]? = H[q]?) → va_S A0 H0 H1 locs1 → W p l e R s m args below meth c H1 locs1 (cells + mc) (slots + ms) Q (F0 m (pc + 3) ls (rest))) : W p l e R s m args below meth c H locs cells slots Q (F0 m pc ls st0) := by
  intro T hT X
  rcases hr T hT X with ⟨v, st₀, t, T', L, h0, X', hL, e1, e2, ⟨⟨u, hv, hp, hb⟩, hF⟩, st⟩ | ⟨q, st₀, t, T', L, E, ce, h0, X', hL, e1, e2, ⟨u, hp, hb, hF⟩, hce, hcv, hcl, st⟩
  · cases hv
    obtain ⟨k1, k2, k3⟩ := vx_keep h0 e1 hS hA hf hL hF
    obtain ⟨t2, a1, b1⟩ := kk u t T'.heap (locs ++ L) e1.symm (by rw [← e2]; exact X'.warmed.alike) hp hb k1 k2 k3 T' rfl X'
    exact ⟨t2, st t2 a1, b1⟩
  · obtain ⟨k1, k2, k3⟩ := vx_keep h0 e1 hS hAX hf hL hF
    obtain ⟨t2, a1, b1⟩ := kx E ce q u t T'.heap (locs ++ L) e1.symm (by rw [← e2]; exact X'.warmed.alike) hp hb k1 k2 k3 (by rw [e1]; exact hce) hcv hcl T' rfl X'
    exact ⟨t2, st.trans a1, b1⟩
/-- caught by the row x of this method's table; the rows ahead don't take it -/
theorem vx_catch {own name : String} {E : String} {ce : Cell} {q : Addr} (hown : s.vm.findClass own = some m.cls) (pre : List ExceptionTableEntry) (x : ExceptionTableEntry) (suf : List ExceptionTableEntry) (hsplit : c.exceptionTable.toList = pre ++ x :: suf)
    (hpass : ∀ z ∈ pre, covers z pc = false ∨ (z.catchType ≠ 0 ∧ ∃ nm : String, (Cond.classLink own z.catchType nm).before args s = true ∧ va_Nc E nm s)) (hx : covers x pc = true) (h0 : x.catchType ≠ 0)
    (hlink : (Cond.classLink own x.catchType name).before args s = true) (hcast : (Cond.castable E name).before args s = true) (hcell : H[q]? = some ce) (hv : ce.vm = .none) (hcl : s.vm.findClass E = some ce.cls)
    (kk : W p l e R s m args below meth c H locs cells slots Q (F0 m x.handlerPc ls [.ref q])) : vx_W p l e R s m args below meth c H locs cells slots Q (F0 m pc ls rest) q := by
  intro T hT X
  have hpl : e.platform.magicAccessors = ({} : Platform).magicAccessors := by rw [X.admits.platform]
  obtain ⟨c3, c4, hc3, hc4, hasg⟩ := Cond.castable_spec hcast
  cases Option.some.inj (hc3.symm.trans hcl)
  obtain ⟨c5, hc5, hcl5⟩ := Cond.classLink_spec hown hlink e.platform hpl
  cases Option.some.inj (hc4.symm.trans hc5)
  obtain ⟨vm', X', st⟩ := X.thenCaughtThrough q (g := F0 m pc ls rest) rfl (Steps.refl _) (by rw [hT]; exact hcell) (by rw [hv]; rfl) (by obtain ⟨k9, h9, -⟩ := Vm.findClass_spec hcl; exact ⟨k9, h9⟩) pre x suf hsplit
    (fun z hz => by
      rcases hpass z hz with h | ⟨hz0, nm, hl1, hn1⟩
      · exact Or.inl h
      · obtain ⟨c6, hc6, hcl6⟩ := Cond.classLink_spec hown hl1 e.platform hpl
        obtain ⟨a8, b8, h1, h2, h3⟩ := hn1
        cases Option.some.inj (h1.symm.trans hcl)
        cases Option.some.inj (h2.symm.trans hc6)
        exact Or.inr ⟨hz0, _, hcl6, h3⟩) hx (Or.inr ⟨h0, c4, hcl5, hasg⟩)
  obtain ⟨t, a1, b1⟩ := kk (T.setVm vm') hT X'
  exact ⟨t, st.trans a1, b1⟩
end Rows
section Ends
variable {p : Program} {l : Launch} {e : Env} {R : Room} {s : State} {m : MethodId} {args : Array Value} {below : List Frame} {meth : Method} {c : Code} {H : Heap} {locs : List Loc} {cells slots : Nat} {Q : State → Prop}
variable {mc ms : Nat} {free : Addr → Prop} {A0 A1 : Nat → Prop} {H0 : Heap} {a : Array Value} {ls : Array Slot} {st0 rest : List Value}
variable {Qc : Array Value → State → Outcome → State → Prop} {XC : String → State → State → Prop}
/-- what a body that may throw owes at its end -/
def vx_MQ (below : List Frame) (Qc : Array Value → State → Outcome → State → Prop) (XC : String → State → State → Prop) (a : Array Value) (s : State) (mc ms : Nat) (free : Addr → Prop) : State → Prop := fun t =>
  ∃ o, t.status = .running ∧ Ended t below o ∧ vx_Q Qc XC mc ms free a s o t
theorem vx_ret {g : JFrame} {mc ms : Nat} (k : W p l e R s m args below meth c H locs cells slots (MQ below Qc args s mc ms free) g) : W p l e R s m args below meth c H locs cells slots (vx_MQ below Qc XC args s mc ms free) g := by
  intro T hT X
  obtain ⟨t, a1, o, b1, b2, b3, b4⟩ := k T hT X
  exact ⟨t, a1, o, b1, b2, Or.inl ⟨b3, b4⟩⟩
/-- not caught here: it goes on to the caller -/
theorem vx_widen {g : JFrame} {q : Addr} {k n : Nat} (h1 : cells ≤ k) (h2 : slots ≤ n) (kk : vx_W p l e R s m args below meth c H locs k n Q g q) : vx_W p l e R s m args below meth c H locs cells slots Q g q := fun T hT X => kk T hT (stand_widen X h1 h2)
theorem vx_out {pc : Nat} {E : String} {ce : Cell} {q : Addr} {mc ms : Nat} (hout : ∀ x ∈ c.exceptionTable.toList, covers x pc = false) (hlocks : meth.locks = false) (hcell : H[q]? = some ce) (hv : ce.vm = .none) (hcl : s.vm.findClass E = some ce.cls)
    (hx : ∀ t : State, t.heap = H → s.vm.Alike t.vm → XC E s t) (hf : ∀ z ∈ locs, free z.base) (hc : cells ≤ mc) (hs : slots ≤ ms) :
    vx_W p l e R s m args below meth c H locs cells slots (vx_MQ below Qc XC args s mc ms free) (F0 m pc ls rest) q := by
  intro T hT X
  obtain ⟨st1, hrun, hend, hW, hsm⟩ := X.leaveThrown q (g := F0 m pc ls rest) rfl rfl rfl hout hlocks
  have hcell9 : (T.setFrames (.throwing q :: below)).heap[q]? = some ce := by
    show T.heap[q]? = some ce
    rw [hT]; exact hcell
  exact ⟨_, st1, .threw q, hrun, hend, Or.inr ⟨q, rfl, E, ce, locs, hx _ hT hW.alike, hcell9, hv, hcl, hW, hsm.mono hc hs, hf⟩⟩
theorem vx_frame {U : State} {k n : Nat} (h : s.sameButNew ({ U with vm := s.vm } : State) locs k n) : s.heap.size ≤ U.heap.size ∧ ∀ q : Nat, q < s.heap.size → (∀ z ∈ locs, z.base ≠ q) → U.heap[q]? = s.heap[q]? := by
  obtain ⟨-, h2, -, -, -, h6⟩ := h
  refine ⟨h2, fun q hq hz => ?_⟩
  obtain ⟨c9, e1, e2, e3, e4⟩ := h6 q _ (Array.getElem?_eq_getElem hq)
  have hs : c9.slots = (s.heap[q]).slots := Array.ext_getElem? fun i => e4 i fun hm => hz _ hm rfl
  have h9 : c9 = s.heap[q] := by
    rw [hs] at e2
    exact e2
  have e5 : U.heap[q]? = some c9 := e1
  rw [e5, h9, Array.getElem?_eq_getElem hq]
/-- the words of a throw but the four that speak of the heap -/
def vx_no (w : Cond) : Bool := decide (w ≠ .isRef (.static Bundle.tN "UNASSIGNED_STACK" Bundle.steD)) && decide (w ≠ .isRef (.static Bundle.tN "SUPPRESSED_SENTINEL" Bundle.listD)) && decide (w ≠ .laysStatic Bundle.tN "UNASSIGNED_STACK" Bundle.steD) && decide (w ≠ .laysStatic Bundle.tN "SUPPRESSED_SENTINEL" Bundle.listD)
def vx_at0 (own : String) (ic : Nat) (X : String) (names : List String) : List Cond := (Bundle.ownAtoms0 own ic X names).filter vx_no
def vx_atS (own : String) (ic : Nat) (X : String) (names : List String) : List Cond := (Bundle.ownAtoms own ic X names).filter vx_no
/-- a word that the tables alone decide, or a good one -/
def vx_ot (w : Cond) : Bool := w.onTables || goodWord w
theorem vx_ot_at {args a' : Array Value} {s U : State} {w : Cond} (hW : s.WarmedH U.vm) (hvm : s.vm = U.vm) (hg : vx_ot w = true) (h : w.before args s = true) : w.before a' U = true := by
  simp only [vx_ot, Bool.or_eq_true] at hg
  rcases hg with hg | hg
  · exact va_tabs hg hvm h
  · exact word_at hW (good_of_word hg) h
/-- a list's words: the good ones out of the method's own list, the others by premises of their own -/
theorem vx_hat {args : Array Value} {s : State} {L B : List Cond} (h1 : ∀ w ∈ L.filter goodWord, w.before args s = true) (h2 : ∀ w ∈ L.filter (fun w => !goodWord w), w ∈ B) (h3 : ∀ w ∈ B, w.before args s = true) : ∀ w ∈ L, w.before args s = true := by
  intro w hw
  by_cases g : goodWord w = true
  · exact h1 w (List.mem_filter.mpr ⟨hw, g⟩)
  · refine h3 w (h2 w (List.mem_filter.mpr ⟨hw, ?_⟩))
    show (!goodWord w) = true
    cases hgw : goodWord w
    · rfl
    · exact absurd hgw g
theorem vx_c {args : Array Value} {s : State} {w : Cond} {B : List Cond} (h : w.before args s = true) (t : ∀ w ∈ B, w.before args s = true) : ∀ w' ∈ w :: B, w'.before args s = true := fun w' h' => (List.mem_cons.mp h').elim (fun e => by rw [e]; exact h) (t w')
theorem vx_n {args : Array Value} {s : State} : ∀ w ∈ ([] : List Cond), w.before args s = true := fun _ h => nomatch h
theorem vx_own {args : Array Value} {s : State} {L : List Cond} (h1 : ∀ w ∈ L.filter vx_no, w.before args s = true)
    (hU : (Cond.isRef (.static Bundle.tN "UNASSIGNED_STACK" Bundle.steD)).before args s = true) (hN : (Cond.isRef (.static Bundle.tN "SUPPRESSED_SENTINEL" Bundle.listD)).before args s = true)
    (lU : (Cond.laysStatic Bundle.tN "UNASSIGNED_STACK" Bundle.steD).before args s = true) (lN : (Cond.laysStatic Bundle.tN "SUPPRESSED_SENTINEL" Bundle.listD).before args s = true) : ∀ w ∈ L, w.before args s = true := by
  intro w hw
  by_cases e1 : w = .isRef (.static Bundle.tN "UNASSIGNED_STACK" Bundle.steD)
  · rw [e1]; exact hU
  · by_cases e2 : w = .isRef (.static Bundle.tN "SUPPRESSED_SENTINEL" Bundle.listD)
    · rw [e2]; exact hN
    · by_cases e3 : w = .laysStatic Bundle.tN "UNASSIGNED_STACK" Bundle.steD
      · rw [e3]; exact lU
      · by_cases e4 : w = .laysStatic Bundle.tN "SUPPRESSED_SENTINEL" Bundle.listD
        · rw [e4]; exact lN
        · exact h1 w (List.mem_filter.mpr ⟨hw, by unfold vx_no; rw [decide_eq_true e1, decide_eq_true e2, decide_eq_true e3, decide_eq_true e4]; rfl⟩)
/-- where a static field lies, its class's statics cell in H -/
def vx_L (C n d : String) (A : Nat → Prop) (U : State) (H : Heap) : Prop := ∃ (c : ClassId) (k : Class) (i : Nat) (f : Field) (a : Nat) (cell : Cell), U.vm.findClass C = some c ∧ U.fieldFound? C n d = some (c, k, i, f) ∧ f.isStatic = true ∧ k.statics = some a ∧ H[a]? = some cell ∧ cell.vm.isStatics = true ∧ cell.cls = c ∧ f.slot < cell.slots.size ∧ k.staticTypes[f.slot]? = some f.type ∧ ¬ A a
theorem vx_L.moved {C n d : String} {A : Nat → Prop} {u U : State} {H : Heap} (hvm : u.vm.Alike U.vm) (h : vx_L C n d A u H) : vx_L C n d A U H := by
  obtain ⟨c, k, i, f, a, cell, h1, h2, h3, h4, h5, h6, h7, h8, h9, h10⟩ := h
  obtain ⟨k', hi', he⟩ := State.fieldFound?_setVm hvm h2
  exact ⟨c, k', i, f, a, cell, by rw [hvm.findClass]; exact h1, hi', h3, by rw [he]; exact h4, h5, h6, h7, h8, by rw [he]; exact h9, h10⟩
theorem vx_L.kept {C n d : String} {A : Nat → Prop} {U : State} {H H1 : Heap} (h : vx_L C n d A U H) (hq : ∀ a : Nat, a < H.size → ¬ A a → H1[a]? = H[a]?) : vx_L C n d A U H1 := by
  obtain ⟨c, k, i, f, a, cell, h1, h2, h3, h4, h5, h6, h7, h8, h9, h10⟩ := h
  exact ⟨c, k, i, f, a, cell, h1, h2, h3, h4, by rw [hq a (Array.getElem?_eq_some_iff.mp h5).1 h10]; exact h5, h6, h7, h8, h9, h10⟩
theorem vx_L.narrow {C n d : String} {A B : Nat → Prop} {U : State} {H : Heap} (h : vx_L C n d A U H) (hAB : ∀ q, B q → A q) : vx_L C n d B U H := by
  obtain ⟨c, k, i, f, a, cell, h1, h2, h3, h4, h5, h6, h7, h8, h9, h10⟩ := h
  exact ⟨c, k, i, f, a, cell, h1, h2, h3, h4, h5, h6, h7, h8, h9, fun z => h10 (hAB _ z)⟩
theorem vx_L.word {C n d : String} {A : Nat → Prop} {s : State} {args : Array Value} (h : vx_L C n d A s s.heap) : (Cond.laysStatic C n d).before args s = true := by
  obtain ⟨c, k, i, f, a, cell, h1, h2, h3, h4, h5, h6, h7, h8, h9, -⟩ := h
  show (Cond.laysStatic C n d).holds args s none s [] = true
  exact Cond.laysStatic_of h1 h2 h3 h4 h5 h6 h7 h8 h9
/-- .. and what it holds: null or some reference -/
def vx_Zq (C n d : String) (A : Nat → Prop) (U : State) (H : Heap) : Prop := va_Zq C n d A U H ∧ vx_L C n d A U H
theorem vx_Zq.moved {C n d : String} {A : Nat → Prop} {u U : State} {H : Heap} (hvm : u.vm.Alike U.vm) (h : vx_Zq C n d A u H) : vx_Zq C n d A U H := ⟨va_Zq.moved hvm h.1, vx_L.moved hvm h.2⟩
theorem vx_Zq.kept {C n d : String} {A : Nat → Prop} {U : State} {H H1 : Heap} (h : vx_Zq C n d A U H) (hq : ∀ a : Nat, a < H.size → ¬ A a → H1[a]? = H[a]?) : vx_Zq C n d A U H1 := ⟨va_Zq.kept h.1 hq, vx_L.kept h.2 hq⟩
theorem vx_Zq.narrow {C n d : String} {A B : Nat → Prop} {U : State} {H : Heap} (h : vx_Zq C n d A U H) (hAB : ∀ q, B q → A q) : vx_Zq C n d B U H := ⟨va_Zq.narrow h.1 hAB, vx_L.narrow h.2 hAB⟩
theorem vx_Zqof {args : Array Value} {s : State} {C n d : String} {A : Nat → Prop} (hl : (Cond.laysStatic C n d).before args s = true) (hini : (Cond.initialized C).before args s = true) (h : (Cond.isRef (.static C n d)).before args s = true) (hA : ∀ a : Nat, a < s.heap.size → ¬ A a) : vx_Zq C n d A s s.heap := by
  refine ⟨va_Zqof hl hini h hA, ?_⟩
  obtain ⟨c, k, i, f, a, cell, h1, h2, h3, h4, h5, h6, h7, h8, h9⟩ := Cond.laysStatic_spec hl
  exact ⟨c, k, i, f, a, cell, h1, h2, h3, h4, h5, h6, h7, h8, h9, hA a (Array.getElem?_eq_some_iff.mp h5).1⟩
theorem vx_isRef {C n d : String} {v : Value} {A : Nat → Prop} {s : State} {args : Array Value} (h : va_Z C n d v A s s.heap) (hv : v.isRef = true) : (Cond.isRef (.static C n d)).before args s = true := by
  obtain ⟨cf, kf, fi, f, a, cell, h1, h2, h3, h4, h5, h6, h7, -⟩ := h
  have he : (Term.static C n d).eval args s none [] s = some v := by
    simp [Term.eval, State.fieldNamed?, h1, h2, h4, h5, h6, h7]
  simp only [Cond.before, Cond.holds, Cond.value, he]
  cases v <;> simp_all [Value.isRef]
theorem vx_isRefq {C n d : String} {A : Nat → Prop} {s : State} {args : Array Value} (h : va_Zq C n d A s s.heap) : (Cond.isRef (.static C n d)).before args s = true := by
  rcases h with h | ⟨t, h⟩
  · exact vx_isRef h rfl
  · exact vx_isRef h rfl
/-- the same frame, seen from here: as if the method were called anew in this heap -/
theorem vx_rebase {T : State} (X : Stand p l e R s m args below meth c T locs cells slots) {R' : Room} (hf : R'.frames ≤ R.frames) (hl : R'.locals ≤ R.locals) (hc : cells + R'.cells ≤ R.cells) (hs : slots + R'.slots ≤ R.slots) :
    Stand p l e R' ((T.setVm s.vm).setFrames (.invoking m args :: below)) m args below meth c T [] 0 0 := by
  have htop : (T.setVm s.vm).topJava?.isSome := X.here.top
  have hF : ((T.setVm s.vm).setFrames (.invoking m args :: below)).frames = .invoking m args :: below := State.frames_setFrames _ (State.cur_lt_of_top htop)
  obtain ⟨g₀, hg0⟩ := Option.isSome_iff_exists.mp htop
  obtain ⟨r, hr⟩ := State.topJava?_eq_some.mp hg0
  have hl9 : e.platform.stackLimits (T.setVm s.vm).me = e.platform.stackLimits s.me := X.limits
  have hb9 : (T.setVm s.vm).me.stackBytes = s.me.stackBytes := X.bytes
  refine ⟨X.admits, X.cas, X.clock, hF, ?_, X.hears, X.method, X.code, X.here, X.tail, X.warmed, ?_, ?_, ?_⟩
  · have h := X.room
    have hU : ((T.setVm s.vm).setFrames (.invoking m args :: below)).localsInUse = s.localsInUse := by
      rw [State.localsInUse_invoking hF (meth := meth) (c := c) X.method X.code, State.localsInUse_invoking X.frames X.method X.code]
    simp only [State.hasRoom, Bool.and_eq_true, decide_eq_true_eq] at h ⊢
    obtain ⟨⟨⟨⟨h1, h2, h3, h4, h5, h6⟩, h7⟩, h8⟩, h9⟩ := h
    rw [X.frames, List.length_cons] at h2 h3
    have q1 := X.heapSize
    have q2 := X.used
    simp only [hF, hU, List.length_cons, State.stackLimits_setFrames, State.stackBytes_setFrames, hl9, hb9]
    refine ⟨⟨⟨⟨by omega, by omega, by omega, by omega, by omega, h6⟩, ?_⟩, ?_⟩, X.book⟩
    · show T.heap.size + R'.cells ≤ e.platform.maxCells
      omega
    · show T.slotsUsed + R'.slots ≤ e.platform.maxSlots
      omega
  · rw [State.stackLimits_setFrames]; rfl
  · rw [State.stackBytes_setFrames]; rfl
  · refine ⟨?_, Nat.le_refl _, Nat.le_refl _, ?_, ?_, fun a c9 h9 => ⟨c9, h9, rfl, rfl, fun _ _ => rfl⟩⟩
    · obtain ⟨t, ht, -⟩ := State.frames_cons hr
      show T.setVm s.vm = { ((T.setVm s.vm).setFrames (.invoking m args :: below)).setFrames (T.setVm s.vm).frames with heap := T.heap, slotsUsed := T.slotsUsed }
      rw [State.setFrames_setFrames, State.setFrames_self ht]
      rfl
    · show T.slotsUsed = T.slotsUsed + ((T.heap.toList.drop T.heap.size).map (·.slots.size)).sum
      rw [List.drop_eq_nil_of_le (Nat.le_of_eq Array.length_toList)]
      rfl
    · show ((T.heap.toList.drop T.heap.size).map (·.slots.size)).sum ≤ 0
      rw [List.drop_eq_nil_of_le (Nat.le_of_eq Array.length_toList)]
      exact Nat.le_refl _
/-- 'throw new E()': new; dup; invokespecial; athrow -/
theorem vx_throw0 {cc : ByteArray} {pc : Nat} (hexec : p.tables.exec = Jvm.exec) (hb : c.code = cc) (hl : l.stackTraces = false) {own cls : String} {names : List String} {ik ic mc ms : Nat} {A : Nat → Prop}
    (hown : s.vm.findClass own = some m.cls) (hcls : Bundle.fit cls = true) (hnames : ∀ n ∈ names, Bundle.fit n = true)
    (hk : (Cond.classLink own ik cls).before args s = true) (hini : (Cond.initialized cls).before args s = true) (hat : ∀ w ∈ vx_at0 own ic cls names, w.before args s = true)
    (hgood : ∀ w ∈ Cond.classLink own ik cls :: Cond.initialized cls :: vx_at0 own ic cls names, vx_ot w = true)
    (hU : vx_Zq Bundle.tN "UNASSIGNED_STACK" Bundle.steD A s s.heap) (hN : vx_Zq Bundle.tN "SUPPRESSED_SENTINEL" Bundle.listD A s s.heap) (hS : va_S A s.heap H locs) (hsize : ls.size = c.maxLocals)
    (d0 : decode cc pc = .ok (.new ik, 3)) (d3 : decode cc (pc + 3) = .ok (.dup, 1)) (d4 : decode cc (pc + 4) = .ok (.invokespecial ic, 3)) (d7 : decode cc (pc + 7) = .ok (.athrow, 1))
    (hout : ∀ x ∈ c.exceptionTable.toList, covers x (pc + 7) = false)
    (hRframes : names.length + 3 < R.frames) (hRlocals : (rest.map fun v => v.category).sum + (13 * (names.length + 1) + 42) ≤ R.locals) (hRcells : cells + 1 ≤ R.cells) (hRslots : slots + 6 ≤ R.slots) (hlocks : meth.locks = false)
    (hx : ∀ t : State, s.vm.Alike t.vm → H.size ≤ t.heap.size → (∀ q : Nat, q < H.size → t.heap[q]? = H[q]?) → XC cls s t)
    (hf : ∀ z ∈ locs, free z.base) (hc : cells + 1 ≤ mc) (hs : slots + 6 ≤ ms) :
    W p l e R s m args below meth c H locs cells slots (vx_MQ below Qc XC args s mc ms free) (F0 m pc ls rest) := by
  intro T hT X
  have htr : e.platform.stackTraces = false := (show e.platform.stackTraces = l.stackTraces by rw [X.admits.platform]).trans hl
  have Y := vx_rebase X (R' := { frames := R.frames, locals := R.locals, cells := 1, slots := 6 }) (Nat.le_refl _) (Nat.le_refl _) hRcells hRslots
  obtain ⟨s', hA⟩ : ∃ z, z = (T.setVm s.vm).setFrames (.invoking m args :: below) := ⟨_, rfl⟩
  rw [← hA] at Y
  have hvm : s'.vm = s.vm := by rw [hA]; rfl
  have hhp : s'.heap = H := by rw [hA]; exact hT
  have hW0 : s.WarmedH s'.vm := by rw [hvm]; exact State.WarmedH.refl s
  have hat' : ∀ w ∈ vx_at0 own ic cls names, w.before args s' = true := fun w hw => vx_ot_at hW0 hvm.symm (hgood w (List.mem_cons_of_mem _ (List.mem_cons_of_mem _ hw))) (hat w hw)
  have hk' : (Cond.classLink own ik cls).before args s' = true := vx_ot_at hW0 hvm.symm (hgood _ List.mem_cons_self) hk
  have hini' : (Cond.initialized cls).before args s' = true := vx_ot_at hW0 hvm.symm (hgood _ (List.mem_cons_of_mem _ List.mem_cons_self)) hini
  have hU' : vx_Zq Bundle.tN "UNASSIGNED_STACK" Bundle.steD A s' s'.heap := by rw [hhp]; exact vx_Zq.moved hW0.alike (hU.kept hS.2.1)
  have hN' : vx_Zq Bundle.tN "SUPPRESSED_SENTINEL" Bundle.listD A s' s'.heap := by rw [hhp]; exact vx_Zq.moved hW0.alike (hN.kept hS.2.1)
  have h : ∀ w ∈ Bundle.ownAtoms0 own ic cls names, w.before args s' = true := vx_own hat' (vx_isRefq hU'.1) (vx_isRefq hN'.1) hU'.2.word hN'.2.word
  have hown' : s'.vm.findClass own = some m.cls := by rw [hvm]; exact hown
  have hins : (Cond.instantiable cls 6).before args s' = true := h _ (by simp [Bundle.ownAtoms0])
  obtain ⟨vm₁, cX, kX, hfX, hkX, -, -, X₁, st1⟩ := Y.newCold hexec (own := own) (C := cls) (index := ik) (n := 6) hown' hk' hins hini'
    (g := F0 m pc ls rest) rfl (by rw [hb]; exact d0) (Nat.le_refl _) (Nat.le_refl _)
  generalize hT1 : (T.setVm vm₁).pushCell { cls := cX, slots := kX.instanceTypes.map defaultValue, vm := .none } = T1 at X₁ st1
  have hcat : (Value.ref T.heap.size).category = 1 := rfl
  have hcellA : T1.heap[T.heap.size]? = some (freshCell cX kX) := by rw [← hT1]; exact State.heap_pushCell_size _ _
  have d3' : decode c.code (pc + 3) = .ok (.dup, 1) := by rw [hb]; exact d3
  obtain ⟨U, hsteps, hrun, hend, hW, hsame, ce, hce, hO⟩ := X₁.ctorThrow0 hexec htr (own := own) (cls := cls) (names := names) (ic := ic) hown' hcls hnames h (fun x hx => nomatch hx) hfX hkX hcellA (by rw [hhp, hT]; exact Nat.le_refl _)
    (g := { method := m, pc := pc + 4, locals := ls, stack := .ref T.heap.size :: .ref T.heap.size :: rest, locked := none }) rfl hsize rfl rfl (rest := rest) rfl
    (by rw [hb]; exact d4) (by rw [hb]; exact d7) hout hRframes (by simp only [List.map_cons, List.sum_cons, hcat]; omega) hlocks
  obtain ⟨f1, f2⟩ := vx_frame hsame
  rw [hhp] at f1 f2
  have hWs : s.WarmedH U.vm := State.WarmedH.trans hW0 hW
  have hcl : s.vm.findClass cls = some ce.cls := by
    have h9 := hO.cls
    rw [hvm] at h9
    exact h9
  have hall : s.sameButNew ({ U with vm := s.vm } : State) locs mc ms := by
    subst hA
    obtain ⟨e1, e2⟩ := hsame
    rw [State.setFrames_setFrames] at e1
    have h2 : (T.setVm s.vm).sameButNew ({ U with vm := s.vm } : State) [] (0 + 1) (0 + 6) := ⟨e1, e2⟩
    have h3 := X.same.trans h2
    rw [List.append_nil] at h3
    exact h3.mono hc hs
  refine ⟨U, ?_, .threw T.heap.size, hrun, hend, Or.inr ⟨T.heap.size, rfl, cls, ce, locs, hx U hWs.alike f1 (fun q hq => f2 q hq (fun z hz => nomatch hz)), hce, hO.vm, hcl, hWs, hall, hf⟩⟩
  refine st1 _ ?_
  show Steps p.tables e below (T1.setTop { method := m, pc := pc + 3, locals := ls, stack := .ref T.heap.size :: rest, locked := none }) _
  jvm_step X₁.here [X₁.here.top, hexec, d3', Value.category]
  exact hsteps
/-- 'throw new E("text")': new; dup; ldc; invokespecial; athrow -/
theorem vx_throwS {cc : ByteArray} {pc : Nat} (hexec : p.tables.exec = Jvm.exec) (hb : c.code = cc) (hl : l.stackTraces = false) {own cls text : String} {names : List String} {ik is ic mc ms sa : Nat} {A : Nat → Prop}
    (hown : s.vm.findClass own = some m.cls) (hcls : Bundle.fit cls = true) (hnames : ∀ n ∈ names, Bundle.fit n = true)
    (hk : (Cond.classLink own ik cls).before args s = true) (hini : (Cond.initialized cls).before args s = true) (hstr : vk_R own is text sa s) (hat : ∀ w ∈ vx_atS own ic cls names, w.before args s = true)
    (hgood : ∀ w ∈ Cond.classLink own ik cls :: Cond.initialized cls :: vx_atS own ic cls names, vx_ot w = true)
    (hU : vx_Zq Bundle.tN "UNASSIGNED_STACK" Bundle.steD A s s.heap) (hN : vx_Zq Bundle.tN "SUPPRESSED_SENTINEL" Bundle.listD A s s.heap) (hS : va_S A s.heap H locs) (hsize : ls.size = c.maxLocals)
    (d0 : decode cc pc = .ok (.new ik, 3)) (d3 : decode cc (pc + 3) = .ok (.dup, 1)) (d4 : decode cc (pc + 4) = .ok (.ldc is, 2)) (d6 : decode cc (pc + 6) = .ok (.invokespecial ic, 3)) (d9 : decode cc (pc + 9) = .ok (.athrow, 1))
    (hout : ∀ x ∈ c.exceptionTable.toList, covers x (pc + 9) = false)
    (hRframes : names.length + 3 < R.frames) (hRlocals : (rest.map fun v => v.category).sum + (13 * (names.length + 1) + 43) ≤ R.locals) (hRcells : cells + 1 ≤ R.cells) (hRslots : slots + 6 ≤ R.slots) (hlocks : meth.locks = false)
    (hx : ∀ t : State, s.vm.Alike t.vm → H.size ≤ t.heap.size → (∀ q : Nat, q < H.size → t.heap[q]? = H[q]?) → XC cls s t)
    (hf : ∀ z ∈ locs, free z.base) (hc : cells + 1 ≤ mc) (hs : slots + 6 ≤ ms) :
    W p l e R s m args below meth c H locs cells slots (vx_MQ below Qc XC args s mc ms free) (F0 m pc ls rest) := by
  intro T hT X
  have htr : e.platform.stackTraces = false := (show e.platform.stackTraces = l.stackTraces by rw [X.admits.platform]).trans hl
  have Y := vx_rebase X (R' := { frames := R.frames, locals := R.locals, cells := 1, slots := 6 }) (Nat.le_refl _) (Nat.le_refl _) hRcells hRslots
  obtain ⟨s', hA⟩ : ∃ z, z = (T.setVm s.vm).setFrames (.invoking m args :: below) := ⟨_, rfl⟩
  rw [← hA] at Y
  have hvm : s'.vm = s.vm := by rw [hA]; rfl
  have hhp : s'.heap = H := by rw [hA]; exact hT
  have hW0 : s.WarmedH s'.vm := by rw [hvm]; exact State.WarmedH.refl s
  have hat' : ∀ w ∈ vx_atS own ic cls names, w.before args s' = true := fun w hw => vx_ot_at hW0 hvm.symm (hgood w (List.mem_cons_of_mem _ (List.mem_cons_of_mem _ hw))) (hat w hw)
  have hk' : (Cond.classLink own ik cls).before args s' = true := vx_ot_at hW0 hvm.symm (hgood _ List.mem_cons_self) hk
  have hini' : (Cond.initialized cls).before args s' = true := vx_ot_at hW0 hvm.symm (hgood _ (List.mem_cons_of_mem _ List.mem_cons_self)) hini
  have hU' : vx_Zq Bundle.tN "UNASSIGNED_STACK" Bundle.steD A s' s'.heap := by rw [hhp]; exact vx_Zq.moved hW0.alike (hU.kept hS.2.1)
  have hN' : vx_Zq Bundle.tN "SUPPRESSED_SENTINEL" Bundle.listD A s' s'.heap := by rw [hhp]; exact vx_Zq.moved hW0.alike (hN.kept hS.2.1)
  have h : ∀ w ∈ Bundle.ownAtoms own ic cls names, w.before args s' = true := vx_own hat' (vx_isRefq hU'.1) (vx_isRefq hN'.1) hU'.2.word hN'.2.word
  have hown' : s'.vm.findClass own = some m.cls := by rw [hvm]; exact hown
  have hins : (Cond.instantiable cls 6).before args s' = true := h _ (by simp [Bundle.ownAtoms])
  obtain ⟨vm₁, cX, kX, hfX, hkX, -, -, X₁, st1⟩ := Y.newCold hexec (own := own) (C := cls) (index := ik) (n := 6) hown' hk' hins hini'
    (g := F0 m pc ls rest) rfl (by rw [hb]; exact d0) (Nat.le_refl _) (Nat.le_refl _)
  generalize hT1 : (T.setVm vm₁).pushCell { cls := cX, slots := kX.instanceTypes.map defaultValue, vm := .none } = T1 at X₁ st1
  have hcat : (Value.ref T.heap.size).category = 1 := rfl
  have hcellA : T1.heap[T.heap.size]? = some (freshCell cX kX) := by rw [← hT1]; exact State.heap_pushCell_size _ _
  have d3' : decode c.code (pc + 3) = .ok (.dup, 1) := by rw [hb]; exact d3
  have d4' : decode c.code (pc + 4) = .ok (.ldc is, 2) := by rw [hb]; exact d4
  have hstr' : vk_R own is text sa s' := vk_R.warm hW0 hstr
  obtain ⟨U, hsteps, hrun, hend, hW, hsame, ce, hce, hO⟩ := X₁.ctorThrowS hexec htr (own := own) (cls := cls) (names := names) (ic := ic) hown' hcls hnames h (fun x hx => nomatch hx) hfX hkX hcellA (by rw [hhp, hT]; exact Nat.le_refl _) (msg := .ref sa) rfl
    (g := { method := m, pc := pc + 6, locals := ls, stack := .ref sa :: .ref T.heap.size :: .ref T.heap.size :: rest, locked := none }) rfl hsize rfl rfl (rest := rest) rfl
    (by rw [hb]; exact d6) (by rw [hb]; exact d9) hout hRframes (by simp only [List.map_cons, List.sum_cons, hcat]; omega) hlocks
  obtain ⟨f1, f2⟩ := vx_frame hsame
  rw [hhp] at f1 f2
  have hWs : s.WarmedH U.vm := State.WarmedH.trans hW0 hW
  have hcl : s.vm.findClass cls = some ce.cls := by
    have h9 := hO.cls
    rw [hvm] at h9
    exact h9
  have hall : s.sameButNew ({ U with vm := s.vm } : State) locs mc ms := by
    subst hA
    obtain ⟨e1, e2⟩ := hsame
    rw [State.setFrames_setFrames] at e1
    have h2 : (T.setVm s.vm).sameButNew ({ U with vm := s.vm } : State) [] (0 + 1) (0 + 6) := ⟨e1, e2⟩
    have h3 := X.same.trans h2
    rw [List.append_nil] at h3
    exact h3.mono hc hs
  refine ⟨U, ?_, .threw T.heap.size, hrun, hend, Or.inr ⟨T.heap.size, rfl, cls, ce, locs, hx U hWs.alike f1 (fun q hq => f2 q hq (fun z hz => nomatch hz)), hce, hO.vm, hcl, hWs, hall, hf⟩⟩
  refine st1 _ ?_
  show Steps p.tables e below (T1.setTop { method := m, pc := pc + 3, locals := ls, stack := .ref T.heap.size :: rest, locked := none }) _
  jvm_step X₁.here [X₁.here.top, hexec, d3', Value.category]
  exact X₁.ldcString hexec (own := own) (text := text) (index := is) (a := sa) hown' hstr'.1 hstr'.2
    (g := { method := m, pc := pc + 4, locals := ls, stack := .ref T.heap.size :: .ref T.heap.size :: rest, locked := none }) rfl d4' _ hsteps
/-- 'throw new E("text")', the text by a wide index -/
theorem vx_throwSW {cc : ByteArray} {pc : Nat} (hexec : p.tables.exec = Jvm.exec) (hb : c.code = cc) (hl : l.stackTraces = false) {own cls text : String} {names : List String} {ik is ic mc ms sa : Nat} {A : Nat → Prop}
    (hown : s.vm.findClass own = some m.cls) (hcls : Bundle.fit cls = true) (hnames : ∀ n ∈ names, Bundle.fit n = true)
    (hk : (Cond.classLink own ik cls).before args s = true) (hini : (Cond.initialized cls).before args s = true) (hstr : vk_R own is text sa s) (hat : ∀ w ∈ vx_atS own ic cls names, w.before args s = true)
    (hgood : ∀ w ∈ Cond.classLink own ik cls :: Cond.initialized cls :: vx_atS own ic cls names, vx_ot w = true)
    (hU : vx_Zq Bundle.tN "UNASSIGNED_STACK" Bundle.steD A s s.heap) (hN : vx_Zq Bundle.tN "SUPPRESSED_SENTINEL" Bundle.listD A s s.heap) (hS : va_S A s.heap H locs) (hsize : ls.size = c.maxLocals)
    (d0 : decode cc pc = .ok (.new ik, 3)) (d3 : decode cc (pc + 3) = .ok (.dup, 1)) (d4 : decode cc (pc + 4) = .ok (.ldc_w is, 3)) (d7 : decode cc (pc + 7) = .ok (.invokespecial ic, 3)) (d10 : decode cc (pc + 10) = .ok (.athrow, 1))
    (hout : ∀ x ∈ c.exceptionTable.toList, covers x (pc + 10) = false)
    (hRframes : names.length + 3 < R.frames) (hRlocals : (rest.map fun v => v.category).sum + (13 * (names.length + 1) + 43) ≤ R.locals) (hRcells : cells + 1 ≤ R.cells) (hRslots : slots + 6 ≤ R.slots) (hlocks : meth.locks = false)
    (hx : ∀ t : State, s.vm.Alike t.vm → H.size ≤ t.heap.size → (∀ q : Nat, q < H.size → t.heap[q]? = H[q]?) → XC cls s t)
    (hf : ∀ z ∈ locs, free z.base) (hc : cells + 1 ≤ mc) (hs : slots + 6 ≤ ms) :
    W p l e R s m args below meth c H locs cells slots (vx_MQ below Qc XC args s mc ms free) (F0 m pc ls rest) := by
  intro T hT X
  have htr : e.platform.stackTraces = false := (show e.platform.stackTraces = l.stackTraces by rw [X.admits.platform]).trans hl
  have Y := vx_rebase X (R' := { frames := R.frames, locals := R.locals, cells := 1, slots := 6 }) (Nat.le_refl _) (Nat.le_refl _) hRcells hRslots
  obtain ⟨s', hA⟩ : ∃ z, z = (T.setVm s.vm).setFrames (.invoking m args :: below) := ⟨_, rfl⟩
  rw [← hA] at Y
  have hvm : s'.vm = s.vm := by rw [hA]; rfl
  have hhp : s'.heap = H := by rw [hA]; exact hT
  have hW0 : s.WarmedH s'.vm := by rw [hvm]; exact State.WarmedH.refl s
  have hat' : ∀ w ∈ vx_atS own ic cls names, w.before args s' = true := fun w hw => vx_ot_at hW0 hvm.symm (hgood w (List.mem_cons_of_mem _ (List.mem_cons_of_mem _ hw))) (hat w hw)
  have hk' : (Cond.classLink own ik cls).before args s' = true := vx_ot_at hW0 hvm.symm (hgood _ List.mem_cons_self) hk
  have hini' : (Cond.initialized cls).before args s' = true := vx_ot_at hW0 hvm.symm (hgood _ (List.mem_cons_of_mem _ List.mem_cons_self)) hini
  have hU' : vx_Zq Bundle.tN "UNASSIGNED_STACK" Bundle.steD A s' s'.heap := by rw [hhp]; exact vx_Zq.moved hW0.alike (hU.kept hS.2.1)
  have hN' : vx_Zq Bundle.tN "SUPPRESSED_SENTINEL" Bundle.listD A s' s'.heap := by rw [hhp]; exact vx_Zq.moved hW0.alike (hN.kept hS.2.1)
  have h : ∀ w ∈ Bundle.ownAtoms own ic cls names, w.before args s' = true := vx_own hat' (vx_isRefq hU'.1) (vx_isRefq hN'.1) hU'.2.word hN'.2.word
  have hown' : s'.vm.findClass own = some m.cls := by rw [hvm]; exact hown
  have hins : (Cond.instantiable cls 6).before args s' = true := h _ (by simp [Bundle.ownAtoms])
  obtain ⟨vm₁, cX, kX, hfX, hkX, -, -, X₁, st1⟩ := Y.newCold hexec (own := own) (C := cls) (index := ik) (n := 6) hown' hk' hins hini'
    (g := F0 m pc ls rest) rfl (by rw [hb]; exact d0) (Nat.le_refl _) (Nat.le_refl _)
  generalize hT1 : (T.setVm vm₁).pushCell { cls := cX, slots := kX.instanceTypes.map defaultValue, vm := .none } = T1 at X₁ st1
  have hcat : (Value.ref T.heap.size).category = 1 := rfl
  have hcellA : T1.heap[T.heap.size]? = some (freshCell cX kX) := by rw [← hT1]; exact State.heap_pushCell_size _ _
  have d3' : decode c.code (pc + 3) = .ok (.dup, 1) := by rw [hb]; exact d3
  have d4' : decode c.code (pc + 4) = .ok (.ldc_w is, 3) := by rw [hb]; exact d4
  have hstr' : vk_R own is text sa s' := vk_R.warm hW0 hstr
  obtain ⟨U, hsteps, hrun, hend, hW, hsame, ce, hce, hO⟩ := X₁.ctorThrowS hexec htr (own := own) (cls := cls) (names := names) (ic := ic) hown' hcls hnames h (fun x hx => nomatch hx) hfX hkX hcellA (by rw [hhp, hT]; exact Nat.le_refl _) (msg := .ref sa) rfl
    (g := { method := m, pc := pc + 7, locals := ls, stack := .ref sa :: .ref T.heap.size :: .ref T.heap.size :: rest, locked := none }) rfl hsize rfl rfl (rest := rest) rfl
    (by rw [hb]; exact d7) (by rw [hb]; exact d10) hout hRframes (by simp only [List.map_cons, List.sum_cons, hcat]; omega) hlocks
  obtain ⟨f1, f2⟩ := vx_frame hsame
  rw [hhp] at f1 f2
  have hWs : s.WarmedH U.vm := State.WarmedH.trans hW0 hW
  have hcl : s.vm.findClass cls = some ce.cls := by
    have h9 := hO.cls
    rw [hvm] at h9
    exact h9
  have hall : s.sameButNew ({ U with vm := s.vm } : State) locs mc ms := by
    subst hA
    obtain ⟨e1, e2⟩ := hsame
    rw [State.setFrames_setFrames] at e1
    have h2 : (T.setVm s.vm).sameButNew ({ U with vm := s.vm } : State) [] (0 + 1) (0 + 6) := ⟨e1, e2⟩
    have h3 := X.same.trans h2
    rw [List.append_nil] at h3
    exact h3.mono hc hs
  refine ⟨U, ?_, .threw T.heap.size, hrun, hend, Or.inr ⟨T.heap.size, rfl, cls, ce, locs, hx U hWs.alike f1 (fun q hq => f2 q hq (fun z hz => nomatch hz)), hce, hO.vm, hcl, hWs, hall, hf⟩⟩
  refine st1 _ ?_
  show Steps p.tables e below (T1.setTop { method := m, pc := pc + 3, locals := ls, stack := .ref T.heap.size :: rest, locked := none }) _
  jvm_step X₁.here [X₁.here.top, hexec, d3', Value.category]
  exact X₁.ldcStringW hexec (own := own) (text := text) (index := is) (a := sa) hown' hstr'.1 hstr'.2
    (g := { method := m, pc := pc + 4, locals := ls, stack := .ref T.heap.size :: .ref T.heap.size :: rest, locked := none }) rfl d4' _ hsteps
end Ends
section Bodies
variable {l : Launch}
theorem vx_ofW {y : MethodName} {ws ws' : List Cond} {rm : Room} {Pc : Array Value → State → Prop} {Qc : Array Value → State → Outcome → State → Prop} {XC : String → State → State → Prop} {mc ms : Nat} {free : Addr → Prop} {cc : ByteArray} {maxL : Nat} {ret : Option FieldType}
    (hy : plainName y.cls = true) (hw : ws = Cond.code y cc maxL ret :: ws')
    (body : ∀ p e s m args below meth c s₁, BodyLoose p l y (headSpec ws rm) cc maxL ret e s m args below meth c s₁ → c.maxLocals = maxL → (∀ x ∈ c.exceptionTable.toList, False) → Pc args s →
      W p l e (headSpec ws rm).room s m args below meth c s.heap [] 0 0 (vx_MQ below Qc XC args s mc ms free) (entryFrame m args maxL)) : vx_Met l y ws rm Pc Qc XC mc ms free := by
  refine MetFree.of_bodyS (code := cc) (maxLocals := maxL) (ret := ret) hy ?_ ?_
  · intro args s m h hn
    obtain ⟨meth, c, h1, h2, h3, h4, h5, h6, -, -⟩ := Cond.code_spec hn (atoms_spec (ws := ws) h _ (by rw [hw]; exact List.mem_cons_self))
    exact ⟨meth, c, h1, h2, h3, h4, h5, h6⟩
  · intro p e s m args below meth c s₁ B hml hP _
    have hh0 : s₁.heap = s.heap := by rw [B.state]; rfl
    have ht : ∀ x ∈ c.exceptionTable.toList, False := by
      obtain ⟨meth9, c9, h1, h2, -, -, -, -, h7, -⟩ := Cond.code_spec B.named (atoms_spec (ws := ws) B.pre _ (by rw [hw]; exact List.mem_cons_self))
      cases Option.some.inj (h1.symm.trans B.method)
      cases Option.some.inj (h2.symm.trans (Stand.of_body B).code)
      intro x hx
      rw [Array.isEmpty_iff.mp h7] at hx
      cases hx
    obtain ⟨t, a1, o, b1, b2, b3⟩ := body p e s m args below meth c s₁ B hml ht hP s₁ hh0 (Stand.of_body B)
    exact ⟨t, o, a1, b1, b2, b3⟩
/-- the table of a body with handlers -/
theorem vx_table {p : Program} {x y : MethodName} {S : Spec} {cc bytes : ByteArray} {maxL maxL' : Nat} {ret ret' : Option FieldType} {e : Env} {s s₁ : State} {m : MethodId} {args : Array Value} {below : List Frame} {meth : Method} {c : Code} {hh : List (Nat × Nat × Nat × Nat)}
    (B : BodyLoose p l y S cc maxL ret e s m args below meth c s₁) (h : (Cond.codeWith y bytes maxL' ret' hh).before args s = true) : c.exceptionTable.toList = tableOf hh := by
  obtain ⟨m9, meth9, c9, hn9, h1, h2, -, -, h6, -⟩ := Cond.codeWith_spec h
  cases Option.some.inj (hn9.symm.trans B.named)
  cases Option.some.inj (h1.symm.trans B.method)
  cases Option.some.inj (h2.symm.trans (Stand.of_body B).code)
  rw [← h6, table_eq]
end Bodies
end VXA
/-! ===== END ===== -/
/-! ===== BEGIN a static call of a method with an exception table ===== -/
section VXS
variable {p : Program} {l : Launch} {e : Env} {R : Room} {s : State} {m : MethodId} {args : Array Value} {below : List Frame} {meth : Method} {c : Code} {T : State} {H : Heap} {locs : List Loc} {cells slots : Nat}
abbrev vx_CSW (R : Room) (s : State) (args : Array Value) (own : String) (index : Nat) (y : MethodName) (bytes : ByteArray) (maxL : Nat) (ret : Option FieldType) (hh : List (Nat × Nat × Nat × Nat)) (ws : List Cond) (rm : Room) (mc ms n : Nat) : Prop :=
  (rm.cells = mc ∧ rm.slots = ms ∧ rm.frames + 1 ≤ R.frames ∧ 8 + (maxL + 11) + rm.locals ≤ R.locals ∧ (∀ w ∈ ws, ∀ (a' : Array Value) (U : State), s.WarmedH U.vm → w.before a' U = true) ∧ Cond.codeWith y bytes maxL ret hh ∈ ws) ∧
  (Cond.codeWith y bytes maxL ret hh).before args s = true ∧ (Cond.initialized y.cls).before args s = true ∧ (y.cls ≠ "java/lang/invoke/MethodHandle" ∧ y.cls ≠ "java/lang/invoke/VarHandle") ∧
  (∀ sig, parseMethodDescriptor y.desc = some sig → n = sig.parameters.length) ∧ (Cond.methodLink own index y).before args s = true ∧ (Cond.static y).before args s = true
theorem vx_cwSW {own : String} {index maxL mc ms : Nat} {y : MethodName} {bytes : ByteArray} {ret : Option FieldType} {hh : List (Nat × Nat × Nat × Nat)} {Ts ws ws' : List Cond} {rm : Room} (n : Nat) (ht : ∀ w ∈ Ts, w.before args s = true) (hT : GoodIn Ts (va_wsS own index y ws)) (hw : ws = Cond.codeWith y bytes maxL ret hh :: ws') (hrc : rm.cells = mc) (hrs : rm.slots = ms)
    (hd : y.cls ≠ "java/lang/invoke/MethodHandle" ∧ y.cls ≠ "java/lang/invoke/VarHandle" ∧ (parseMethodDescriptor y.desc).map (fun d => d.parameters.length) = some n) (hR : rm.frames + 1 ≤ R.frames ∧ 8 + (maxL + 11) + rm.locals ≤ R.locals) :
    vx_CSW R s args own index y bytes maxL ret hh ws rm mc ms n := by
  have ok : ∀ w ∈ va_wsS own index y ws, w.before args s = true := fun w h => ht w (hT w h).1
  have hG : GoodIn Ts ws := fun w h => hT w (by unfold va_wsS; exact List.mem_append_right _ h)
  have hc : Cond.codeWith y bytes maxL ret hh ∈ ws := by rw [hw]; exact List.mem_cons_self
  refine ⟨⟨hrc, hrs, hR.1, hR.2, pay_in ht hG, hc⟩, ht _ (hG _ hc).1, ok _ (by simp [va_wsS]), ⟨hd.1, hd.2.1⟩, fun sig h => ?_, ok _ (by simp [va_wsS]), ok _ (by simp [va_wsS])⟩
  have h2 := hd.2.2
  rw [h] at h2
  exact (Option.some.inj h2).symm
theorem vx_callSW (X : Stand p l e R s m args below meth c T locs cells slots) (hexec : p.tables.exec = Jvm.exec) {own : String} {index : Nat} {y : MethodName} {bytes : ByteArray} {maxL : Nat} {ret : Option FieldType} {hh : List (Nat × Nat × Nat × Nat)}
    (hown : s.vm.findClass own = some m.cls) (hlink : (Cond.methodLink own index y).before args s = true) (hstat : (Cond.static y).before args s = true) (hinit : (Cond.initialized y.cls).before args s = true)
    (hcode : (Cond.codeWith y bytes maxL ret hh).before args s = true) (hy : y.cls ≠ "java/lang/invoke/MethodHandle" ∧ y.cls ≠ "java/lang/invoke/VarHandle")
    {W9 : Nat} {Pre : Pt → Array Value → Prop} {Post : Pt → Array Value → Option Value → Pt → Prop} (hK : Back l R p e below s args y 3 W9 Pre Post)
    {g : JFrame} (hg : g.method = m) (hsize : g.locals.size = c.maxLocals) {argsL rest : List Value} (hlen : ∀ sig, parseMethodDescriptor y.desc = some sig → argsL.length = sig.parameters.length)
    (hstack : g.stack = argsL.reverse ++ rest) (hW : 2 * g.monitorRoom + (rest.map fun v => v.category).sum ≤ W9) (hdg : decode c.code g.pc = .ok (.invokestatic index, 3))
    (hpre : ∀ vm₁, s.WarmedH vm₁ → Pre ⟨T.setVm vm₁, locs, cells, slots⟩ argsL.toArray) :
    ∃ (v : Option Value) (vm₁ : Vm) (B : Pt), s.WarmedH vm₁ ∧ Stand p l e R s m args below meth c B.U B.locs B.cells B.slots ∧ Post ⟨T.setVm vm₁, locs, cells, slots⟩ argsL.toArray v B ∧
      ∀ target, Steps p.tables e below (B.U.setTop { g with pc := g.pc + 3, stack := v.toList ++ rest }) target → Steps p.tables e below (T.setTop g) target := by
  obtain ⟨mk, methM, cM, hnamed, hmethM, -, -, -, -, -, -, hsigM⟩ := Cond.codeWith_spec hcode
  have hstatic : methM.isStatic = true := Cond.static_spec hnamed hmethM hstat
  obtain ⟨kP, hkP, -⟩ := className_of_methodNamed hnamed
  have hinitP : kP.init = .initialized := Cond.initialized_spec (findClass_of_methodNamed hnamed) hkP hinit
  obtain ⟨vm₁, X₁, hstep₁⟩ := X.invokestatic hexec hown hlink hnamed hmethM hstatic hkP hinitP hy (g := g) hg (argsL := argsL) (rest := rest) (hlen _ hsigM) hstack hdg
  obtain ⟨v, B, X', hpost, hsteps⟩ := hK m meth c ⟨T.setVm vm₁, locs, cells, slots⟩ { g with stack := rest } (.invokestatic index) mk argsL.toArray X₁ hg hsize hdg hW (X₁.named hnamed) (hpre vm₁ X₁.warmed)
  exact ⟨v, vm₁, B, X₁.warmed, X', hpost, fun target h => hstep₁ _ fun acts => by rw [doInvoke_state]; exact hsteps.trans h⟩
theorem vx_runSW {y : MethodName} {bytes cc : ByteArray} {maxL nL mc ms n index : Nat} {ret : Option FieldType} {hh : List (Nat × Nat × Nat × Nat)} {ws : List Cond} {rm : Room} {Pc : Array Value → State → Prop} {Qc : Array Value → State → Outcome → State → Prop} {free : Addr → Prop} {Ts : List Cond} {own : String} {As rest : List Value} {g : JFrame}
    (S : CallFix p m c cc nL s args Ts own) (hM : Met l y ws rm Pc Qc mc ms free) (cw : vx_CSW R s args own index y bytes maxL ret hh ws rm mc ms n) (hp : PreS s H Pc As)
    (hg : g.method = m) (hn : As.length = n) (hsize : g.locals.size = nL) (hstack : g.stack = As.reverse ++ rest) (hW : 2 * g.monitorRoom + (rest.map fun v => v.category).sum ≤ 8) (hdg : decode cc g.pc = .ok (.invokestatic index, 3)) (hf : cells + mc ≤ R.cells ∧ slots + ms ≤ R.slots) :
    va_Run p l e R s m args below meth c H locs cells slots mc ms g rest (Qc As.toArray) (free) := by
  obtain ⟨⟨hrc, hrs, hfr, hlo, hws, hcw⟩, hcode, hini, hy, hlen, hl, hstt⟩ := cw
  have hK : Back l R p e below s args y 3 8 (PreOf R mc ms Pc) (PostOf Qc mc ms free) := va_backW (hh := hh) (bytes := bytes) (maxL := maxL) (ret := ret) hM hp.1 hrc hrs hfr hlo hws hcw (fun a' U hW => word_at hW (Or.inl (by first | rfl | simp [Cond.onTables, Cond.keeps, Cond.steady])) hini)
  obtain ⟨hx, hb, hml, ho, -⟩ := S
  intro T hT X
  obtain ⟨v, vm₁, ⟨U', l2, c2, s2⟩, hW₁, X', ⟨g', mk, t, L, e1, e2, hq, h1, hL, h2, h3⟩, st⟩ := vx_callSW X hx (hh := hh) (bytes := bytes) (maxL := maxL) (ret := ret) ho hl hstt hini hcode hy hK hg (hsize.trans hml.symm) (argsL := As) (rest := rest) (fun sig h => hn.trans (hlen sig h)) hstack hW (by rw [hb]; exact hdg)
    (fun vm₁ hW₁ => ⟨hf.1, hf.2, hp.2 (T.setVm vm₁) hT hW₁⟩)
  dsimp only [Pt.U, Pt.locs, Pt.cells, Pt.slots] at X' e1 e2 h1 h2 h3 st
  subst h1; subst h2; subst h3
  exact ⟨v, (T.setVm vm₁).calling g' mk As.toArray, t, U', L, hT, X', hL, e1, e2, hq, st⟩
/-- not caught here, past rows that name other classes: it goes on to the caller -/
theorem vx_outP {p : Program} {l : Launch} {e : Env} {R : Room} {s : State} {m : MethodId} {args : Array Value} {below : List Frame} {meth : Method} {c : Code} {H : Heap} {locs : List Loc} {cells slots : Nat} {free : Addr → Prop} {ls : Array Slot} {rest : List Value} {Qc : Array Value → State → Outcome → State → Prop} {XC : String → State → State → Prop}
    {pc : Nat} {own E : String} {ce : Cell} {q : Addr} {mc ms : Nat} (hown : s.vm.findClass own = some m.cls) (hlocks : meth.locks = false)
    (hpass : ∀ z ∈ c.exceptionTable.toList, covers z pc = false ∨ (z.catchType ≠ 0 ∧ ∃ nm : String, (Cond.classLink own z.catchType nm).before args s = true ∧ va_Nc E nm s)) (hcell : H[q]? = some ce) (hv : ce.vm = .none) (hcl : s.vm.findClass E = some ce.cls)
    (hx : ∀ t : State, t.heap = H → s.vm.Alike t.vm → XC E s t) (hf : ∀ z ∈ locs, free z.base) (hc : cells ≤ mc) (hs : slots ≤ ms) :
    vx_W p l e R s m args below meth c H locs cells slots (vx_MQ below Qc XC args s mc ms free) (F0 m pc ls rest) q := by
  intro T hT X
  have hpl : e.platform.magicAccessors = ({} : Platform).magicAccessors := by rw [X.admits.platform]
  obtain ⟨vm', hW', X', st⟩ := X.outThrough hlocks q (g := F0 m pc ls rest) rfl rfl rfl (cell := ce) (by rw [hT]; exact hcell) (by rw [hv]; rfl)
    (by obtain ⟨k9, h9, -⟩ := Vm.findClass_spec hcl; exact ⟨k9, h9⟩) (fun z hz => by
      rcases hpass z hz with h | ⟨hz0, nm, hl1, hn1⟩
      · exact Or.inl h
      · obtain ⟨c6, hc6, hcl6⟩ := Cond.classLink_spec hown hl1 e.platform hpl
        obtain ⟨a8, b8, h1, h2, h3⟩ := hn1
        cases Option.some.inj (h1.symm.trans hcl)
        cases Option.some.inj (h2.symm.trans hc6)
        exact Or.inr ⟨hz0, _, hcl6, h3⟩)
  obtain ⟨g₀, hfr⟩ := X'.frames_eq
  have hcell9 : ((T.setVm vm').setFrames (.throwing q :: below)).heap[q]? = some ce := by
    show T.heap[q]? = some ce
    rw [hT]; exact hcell
  have hend : Ended ((T.setVm vm').setFrames (.throwing q :: below)) below (.threw q) := State.frames_setFrames _ (State.cur_lt_of_frames hfr)
  refine ⟨(T.setVm vm').setFrames (.throwing q :: below), ?_, .threw q, X'.here.running, hend, Or.inr ⟨q, rfl, E, ce, locs, hx _ hT (X'.ends _).1.alike, hcell9, hv, hcl, (X'.ends _).1, (X'.ends _).2.mono hc hs, hf⟩⟩
  rw [X.pushThrowing_eq]
  exact st
/-- a thing of a world lies in the heap -/
theorem vx_lt {D : va_G} {cl : List vw_C} {ws : va_W} {H1 : Heap} (h : va_P D cl ws H1) {k : Nat} {q : Nat × va_E} (hk : ws[k]? = some q) : q.1 < H1.size := (h k q hk).lt
end VXS
/-! ===== END ===== -/
/-! ===== BEGIN methods with a table of their own: called by a name, returning or throwing ===== -/
section VXH
/-! vx_backW, vx_callVX, vx_callSX, vx_callVW, vx_runVW, vx_runVX, vx_runSX, vx_ofWH follow the same proofs as their sisters above (Free/Laws.lean, Shelf42/LK1.lean); vx_outP calls Shelf42/NT130.lean (outThrough). -/
section
variable {l : Launch} {R : Room} {p : Program} {e : Env} {below : List Frame} {s : State} {sargs : Array Value} {y : MethodName} {len W9 : Nat}
theorem vx_backW {ws : List Cond} {rm : Room} {Pc : Array Value → State → Prop} {Qc : Array Value → State → Outcome → State → Prop} {XC : String → State → State → Prop} {mc ms : Nat} {free : Addr → Prop} {bytes : ByteArray} {maxL : Nat} {ret : Option FieldType} {hh : List (Nat × Nat × Nat × Nat)}
    (hM : vx_Met l y ws rm Pc Qc XC mc ms free) (hblind : FrameBlind Pc) (hrc : rm.cells = mc) (hrs : rm.slots = ms)
    (hframes : rm.frames + 1 ≤ R.frames) (hlocals : W9 + (maxL + 11) + rm.locals ≤ R.locals)
    (hws : ∀ w ∈ ws, ∀ a' U, s.WarmedH U.vm → w.before a' U = true) (hcode : Cond.codeWith y bytes maxL ret hh ∈ ws) (hinit : ∀ a' U, s.WarmedH U.vm → (Cond.initialized y.cls).before a' U = true) :
    vx_Back l R p e below s sargs y len W9 (PreOf R mc ms Pc) (PostOf Qc mc ms free) (vx_Post XC mc ms free) := by
  intro m meth c A g ig mk a X hg hsize hdg hW hn hp
  have h1 : (headSpec ws rm).pre.before a A.U = true := atoms_intro fun w hw => hws w hw _ _ X.warmed
  have h2 : (Cond.codeWith y bytes maxL ret hh).before a A.U = true := hws _ hcode _ _ X.warmed
  have h3 : (Cond.initialized y.cls).before a A.U = true := hinit _ _ X.warmed
  have h4 : A.cells + (headSpec ws rm).room.cells ≤ R.cells := by rw [show (headSpec ws rm).room.cells = mc from hrc]; exact hp.1
  have h5 : A.slots + (headSpec ws rm).room.slots ≤ R.slots := by rw [show (headSpec ws rm).room.slots = ms from hrs]; exact hp.2.1
  have hPc : Pc a (A.U.calling g mk a) := hblind _ _ _ _ hp.2.2
  obtain ⟨U, Ls, c0, s0⟩ := A
  dsimp only [Pt.U, Pt.locs, Pt.cells, Pt.slots] at h1 h2 h3 h4 h5 X hn hPc ⊢
  obtain ⟨m9, methY, cY, hn9, hmY, hcY, -, hlY, -⟩ := Cond.codeWith_spec h2
  cases Option.some.inj (hn9.symm.trans hn)
  obtain ⟨kY, hkY, -⟩ := className_of_methodNamed hn
  have hinitY : kY.init = .initialized := Cond.initialized_spec (findClass_of_methodNamed hn) hkY h3
  have h : At U g.method c below := by rw [hg]; exact X.here
  have hlocals9 : W9 + (maxL + 11) + (headSpec ws rm).room.locals ≤ R.locals := hlocals
  have happ : (headSpec ws rm).appliesLoose y e.platform (U.calling g mk a) = true :=
    Spec.appliesLoose_calling (g := g) h hdg hn hkY hinitY
      (X.room_calling (g := g) (R' := (headSpec ws rm).room) hsize hmY hcY hframes (by rw [hlY]; omega) h4 h5) h1
  obtain ⟨mid, hmid⟩ := h.above
  have hfr : (U.setTop g).frames = (.java g :: mid) ++ below := by rw [State.frames_setTop' g h.top, hmid]; rfl
  obtain ⟨o, s₂, hsteps, -, hend, hq⟩ := Steps.callFree hM p X.admits X.cas X.clock (acts := []) hfr happ hPc trivial
  have hq' : vx_Q Qc XC mc ms free a (U.calling g mk a) o s₂ := hq
  rw [State.frames_setTop' g h.top] at hend
  obtain ⟨g₀, hg0⟩ := Option.isSome_iff_exists.mp h.top
  obtain ⟨r, hr⟩ := State.topJava?_eq_some.mp hg0
  have hr' : (({ U with heap := s₂.heap, slotsUsed := s₂.slotsUsed } : State).setVm s₂.vm).frames = .java g₀ :: r := hr
  rcases hq' with ⟨hqc, L, hfe, hL⟩ | ⟨q, rfl, E, ce, L, hx, hce, hcv, hcl, hW₂, hsm, hL⟩
  · obtain ⟨⟨v, rfl⟩, hW₂, e2, q2, q3, q4, q5, q6⟩ := id hfe
    have e3 : s₂ = ({ (U.calling g mk a).setFrames s₂.frames with heap := s₂.heap, slotsUsed := s₂.slotsUsed } : State).setVm s₂.vm := by
      have : s₂ = ({ s₂ with vm := (U.calling g mk a).vm } : State).setVm s₂.vm := rfl
      rw [e2] at this
      exact this
    obtain ⟨c₂, i₂, len₂, hc₂, hd₂, hf₂⟩ := hend
    have hW' : U.WarmedH s₂.vm := hW₂
    have hcc : c₂ = c := by
      have h1 : s₂.code? g.method = U.code? g.method := by
        rw [State.code?_eq, State.code?_eq, hW'.alike.method?]
      exact Option.some.inj (hc₂.symm.trans (h1.trans h.code))
    subst hcc
    have hlen : len₂ = len := by rw [hdg] at hd₂; cases hd₂; rfl
    subst hlen
    have hs₂ : s₂ = (({ U with heap := s₂.heap, slotsUsed := s₂.slotsUsed } : State).setVm s₂.vm).setTop { g with pc := g.pc + len₂, stack := v.toList ++ g.stack } := by
      refine e3.trans ?_
      rw [hf₂, State.calling_eq h.top, State.setFrames_setFrames, State.setTop_of_frames _ hr', hr]
      rfl
    have hsame : U.sameButNew ({ U with heap := s₂.heap, slotsUsed := s₂.slotsUsed } : State) L mc ms := by
      refine ⟨?_, q2, q3, q4, q5, q6⟩
      obtain ⟨t, ht, -⟩ := State.frames_cons hr
      show ({ U with heap := s₂.heap, slotsUsed := s₂.slotsUsed } : State) = { U.setFrames U.frames with heap := s₂.heap, slotsUsed := s₂.slotsUsed }
      rw [State.setFrames_self ht]
    subst hg
    refine Or.inl ⟨v, ⟨(({ U with heap := s₂.heap, slotsUsed := s₂.slotsUsed } : State).setVm s₂.vm), Ls ++ L, c0 + mc, s0 + ms⟩,
      ⟨X.admits, X.cas, X.clock, X.frames, X.room, X.hears, X.method, X.code, (X.here.setHeapUsed s₂.heap s₂.slotsUsed).setVm hW'.alike, X.tail, State.WarmedH.trans X.warmed hW', X.limits, X.bytes, X.same.trans (hsame.setVm s.vm)⟩,
      ⟨g, mk, s₂, L, rfl, rfl, hqc, rfl, hL, rfl, rfl⟩, ?_⟩
    show Steps p.tables e below _ ((({ U with heap := s₂.heap, slotsUsed := s₂.slotsUsed } : State).setVm s₂.vm).setTop { g with pc := g.pc + len₂, stack := v.toList ++ g.stack })
    rw [← hs₂]
    exact hsteps
  · obtain ⟨e2, q2, q3, q4, q5, q6⟩ := id hsm
    have e3 : s₂ = ({ (U.calling g mk a).setFrames s₂.frames with heap := s₂.heap, slotsUsed := s₂.slotsUsed } : State).setVm s₂.vm := by
      have : s₂ = ({ s₂ with vm := (U.calling g mk a).vm } : State).setVm s₂.vm := rfl
      rw [e2] at this
      exact this
    have hf₂ : s₂.frames = .throwing q :: .java g :: U.frames.tail := hend
    have hW' : U.WarmedH s₂.vm := hW₂
    have hs₂ : s₂ = ((({ U with heap := s₂.heap, slotsUsed := s₂.slotsUsed } : State).setVm s₂.vm).setTop g).pushFrame (.throwing q) := by
      refine e3.trans ?_
      rw [hf₂, State.calling_eq h.top, State.setFrames_setFrames, State.pushFrame, State.frames_setTop _ hr', State.setTop_of_frames _ hr', State.setFrames_setFrames, hr]
      rfl
    have hsame : U.sameButNew ({ U with heap := s₂.heap, slotsUsed := s₂.slotsUsed } : State) L mc ms := by
      refine ⟨?_, q2, q3, q4, q5, q6⟩
      obtain ⟨t, ht, -⟩ := State.frames_cons hr
      show ({ U with heap := s₂.heap, slotsUsed := s₂.slotsUsed } : State) = { U.setFrames U.frames with heap := s₂.heap, slotsUsed := s₂.slotsUsed }
      rw [State.setFrames_self ht]
    subst hg
    refine Or.inr ⟨q, ⟨(({ U with heap := s₂.heap, slotsUsed := s₂.slotsUsed } : State).setVm s₂.vm), Ls ++ L, c0 + mc, s0 + ms⟩,
      ⟨X.admits, X.cas, X.clock, X.frames, X.room, X.hears, X.method, X.code, (X.here.setHeapUsed s₂.heap s₂.slotsUsed).setVm hW'.alike, X.tail, State.WarmedH.trans X.warmed hW', X.limits, X.bytes, X.same.trans (hsame.setVm s.vm)⟩,
      ⟨g, mk, s₂, L, E, ce, rfl, rfl, hx, hce, hcv, hcl, rfl, hL, rfl, rfl⟩, ?_⟩
    show Steps p.tables e below _ (((({ U with heap := s₂.heap, slotsUsed := s₂.slotsUsed } : State).setVm s₂.vm).setTop g).pushFrame (.throwing q))
    rw [← hs₂]
    exact hsteps
end
variable {p : Program} {l : Launch} {e : Env} {R : Room} {s : State} {m : MethodId} {args : Array Value} {below : List Frame} {meth : Method} {c : Code} {T : State} {H : Heap} {locs : List Loc} {cells slots : Nat}
theorem vx_callVX (X : Stand p l e R s m args below meth c T locs cells slots) (hexec : p.tables.exec = Jvm.exec) {own C : String} {index : Nat} {y : MethodName} {bytes : ByteArray} {maxL : Nat} {ret : Option FieldType} {hh : List (Nat × Nat × Nat × Nat)}
    (hown : s.vm.findClass own = some m.cls) (hlink : (Cond.methodLink own index y).before args s = true) (hinst : (Cond.instanceMethod y).before args s = true) (hsel : (Cond.selects C y y).before args s = true)
    (hcode : (Cond.codeWith y bytes maxL ret hh).before args s = true) (hy : y.cls ≠ "java/lang/invoke/MethodHandle" ∧ y.cls ≠ "java/lang/invoke/VarHandle")
    {W9 : Nat} {Pre : Pt → Array Value → Prop} {Post : Pt → Array Value → Option Value → Pt → Prop} {PostX : Pt → Array Value → Addr → Pt → Prop} (hK : vx_Back l R p e below s args y 3 W9 Pre Post PostX)
    {b : Addr} {cellB : Cell} (hcell : T.heap[b]? = some cellB) (hobj : cellB.vm.isStatics = false) (hcls : s.vm.findClass C = some cellB.cls)
    {g : JFrame} (hg : g.method = m) (hsize : g.locals.size = c.maxLocals) {argsL rest : List Value} (hlen : ∀ sig, parseMethodDescriptor y.desc = some sig → argsL.length = sig.parameters.length)
    (hstack : g.stack = argsL.reverse ++ .ref b :: rest) (hW : 2 * g.monitorRoom + (rest.map fun v => v.category).sum ≤ W9) (hdg : decode c.code g.pc = .ok (.invokevirtual index, 3))
    (hpre : ∀ vm₁, s.WarmedH vm₁ → Pre ⟨T.setVm vm₁, locs, cells, slots⟩ (Value.ref b :: argsL).toArray) :
    (∃ (v : Option Value) (vm₁ : Vm) (B : Pt), s.WarmedH vm₁ ∧ Stand p l e R s m args below meth c B.U B.locs B.cells B.slots ∧ Post ⟨T.setVm vm₁, locs, cells, slots⟩ (Value.ref b :: argsL).toArray v B ∧
      ∀ target, Steps p.tables e below (B.U.setTop { g with pc := g.pc + 3, stack := v.toList ++ rest }) target → Steps p.tables e below (T.setTop g) target) ∨
    (∃ (q : Addr) (vm₁ : Vm) (B : Pt), s.WarmedH vm₁ ∧ Stand p l e R s m args below meth c B.U B.locs B.cells B.slots ∧ PostX ⟨T.setVm vm₁, locs, cells, slots⟩ (Value.ref b :: argsL).toArray q B ∧
      Steps p.tables e below (T.setTop g) ((B.U.setTop { g with stack := rest }).pushFrame (.throwing q))) := by
  obtain ⟨mk, methM, hnamed, hmethM, hstM, habM⟩ := Cond.instanceMethod_spec hinst
  obtain ⟨m8, methM', cM, hn8, hmethM', -, -, -, -, -, -, hsigM⟩ := Cond.codeWith_spec hcode
  cases Option.some.inj (hn8.symm.trans hnamed)
  cases hmethM.symm.trans hmethM'
  obtain ⟨c2, r2, m2, q1, q2, q3, q4, kP, hkP, hkPi⟩ := Cond.selects_spec hsel
  cases hcls.symm.trans q1
  cases (State.methodFound?_of_named hnamed hy).symm.trans q2
  cases hnamed.symm.trans q3
  have hselP : selectMethod e.platform s.vm cellB.cls mk = .method mk := by rw [Launch.admits_selectMethod X.admits]; exact q4
  obtain ⟨vm₁, X₁, hstep₁⟩ := X.invokevirtual hexec hown hlink hnamed hmethM hstM hkP hkPi hy (a := b) (cell := cellB) hcell
    (fun z h => by rw [h] at hobj; cases hobj) hselP hmethM habM hkP hkPi (g := g) hg (argsL := argsL) (rest := rest) (hlen _ hsigM) hstack hdg
  rcases hK m meth c ⟨T.setVm vm₁, locs, cells, slots⟩ { g with stack := rest } (.invokevirtual index) mk (Value.ref b :: argsL).toArray X₁ hg hsize hdg hW (X₁.named hnamed) (hpre vm₁ X₁.warmed) with ⟨v, B, X', hpost, hsteps⟩ | ⟨q, B, X', hpost, hsteps⟩
  · exact Or.inl ⟨v, vm₁, B, X₁.warmed, X', hpost, fun target h => hstep₁ _ fun acts => by rw [doInvoke_state]; exact hsteps.trans h⟩
  · exact Or.inr ⟨q, vm₁, B, X₁.warmed, X', hpost, hstep₁ _ fun acts => by rw [doInvoke_state]; exact hsteps⟩
theorem vx_callSX (X : Stand p l e R s m args below meth c T locs cells slots) (hexec : p.tables.exec = Jvm.exec) {own : String} {index : Nat} {y : MethodName} {bytes : ByteArray} {maxL : Nat} {ret : Option FieldType} {hh : List (Nat × Nat × Nat × Nat)}
    (hown : s.vm.findClass own = some m.cls) (hlink : (Cond.methodLink own index y).before args s = true) (hstat : (Cond.static y).before args s = true) (hinit : (Cond.initialized y.cls).before args s = true)
    (hcode : (Cond.codeWith y bytes maxL ret hh).before args s = true) (hy : y.cls ≠ "java/lang/invoke/MethodHandle" ∧ y.cls ≠ "java/lang/invoke/VarHandle")
    {W9 : Nat} {Pre : Pt → Array Value → Prop} {Post : Pt → Array Value → Option Value → Pt → Prop} {PostX : Pt → Array Value → Addr → Pt → Prop} (hK : vx_Back l R p e below s args y 3 W9 Pre Post PostX)
    {g : JFrame} (hg : g.method = m) (hsize : g.locals.size = c.maxLocals) {argsL rest : List Value} (hlen : ∀ sig, parseMethodDescriptor y.desc = some sig → argsL.length = sig.parameters.length)
    (hstack : g.stack = argsL.reverse ++ rest) (hW : 2 * g.monitorRoom + (rest.map fun v => v.category).sum ≤ W9) (hdg : decode c.code g.pc = .ok (.invokestatic index, 3))
    (hpre : ∀ vm₁, s.WarmedH vm₁ → Pre ⟨T.setVm vm₁, locs, cells, slots⟩ argsL.toArray) :
    (∃ (v : Option Value) (vm₁ : Vm) (B : Pt), s.WarmedH vm₁ ∧ Stand p l e R s m args below meth c B.U B.locs B.cells B.slots ∧ Post ⟨T.setVm vm₁, locs, cells, slots⟩ argsL.toArray v B ∧
      ∀ target, Steps p.tables e below (B.U.setTop { g with pc := g.pc + 3, stack := v.toList ++ rest }) target → Steps p.tables e below (T.setTop g) target) ∨
    (∃ (q : Addr) (vm₁ : Vm) (B : Pt), s.WarmedH vm₁ ∧ Stand p l e R s m args below meth c B.U B.locs B.cells B.slots ∧ PostX ⟨T.setVm vm₁, locs, cells, slots⟩ argsL.toArray q B ∧
      Steps p.tables e below (T.setTop g) ((B.U.setTop { g with stack := rest }).pushFrame (.throwing q))) := by
  obtain ⟨mk, methM, cM, hnamed, hmethM, -, -, -, -, -, -, hsigM⟩ := Cond.codeWith_spec hcode
  have hstatic : methM.isStatic = true := Cond.static_spec hnamed hmethM hstat
  obtain ⟨kP, hkP, -⟩ := className_of_methodNamed hnamed
  have hinitP : kP.init = .initialized := Cond.initialized_spec (findClass_of_methodNamed hnamed) hkP hinit
  obtain ⟨vm₁, X₁, hstep₁⟩ := X.invokestatic hexec hown hlink hnamed hmethM hstatic hkP hinitP hy (g := g) hg (argsL := argsL) (rest := rest) (hlen _ hsigM) hstack hdg
  rcases hK m meth c ⟨T.setVm vm₁, locs, cells, slots⟩ { g with stack := rest } (.invokestatic index) mk argsL.toArray X₁ hg hsize hdg hW (X₁.named hnamed) (hpre vm₁ X₁.warmed) with ⟨v, B, X', hpost, hsteps⟩ | ⟨q, B, X', hpost, hsteps⟩
  · exact Or.inl ⟨v, vm₁, B, X₁.warmed, X', hpost, fun target h => hstep₁ _ fun acts => by rw [doInvoke_state]; exact hsteps.trans h⟩
  · exact Or.inr ⟨q, vm₁, B, X₁.warmed, X', hpost, hstep₁ _ fun acts => by rw [doInvoke_state]; exact hsteps⟩
theorem vx_callVW (X : Stand p l e R s m args below meth c T locs cells slots) (hexec : p.tables.exec = Jvm.exec) {own C : String} {index : Nat} {y : MethodName} {bytes : ByteArray} {maxL : Nat} {ret : Option FieldType} {hh : List (Nat × Nat × Nat × Nat)}
    (hown : s.vm.findClass own = some m.cls) (hlink : (Cond.methodLink own index y).before args s = true) (hinst : (Cond.instanceMethod y).before args s = true) (hsel : (Cond.selects C y y).before args s = true)
    (hcode : (Cond.codeWith y bytes maxL ret hh).before args s = true) (hy : y.cls ≠ "java/lang/invoke/MethodHandle" ∧ y.cls ≠ "java/lang/invoke/VarHandle")
    {W9 : Nat} {Pre : Pt → Array Value → Prop} {Post : Pt → Array Value → Option Value → Pt → Prop} (hK : Back l R p e below s args y 3 W9 Pre Post)
    {b : Addr} {cellB : Cell} (hcell : T.heap[b]? = some cellB) (hobj : cellB.vm.isStatics = false) (hcls : s.vm.findClass C = some cellB.cls)
    {g : JFrame} (hg : g.method = m) (hsize : g.locals.size = c.maxLocals) {argsL rest : List Value} (hlen : ∀ sig, parseMethodDescriptor y.desc = some sig → argsL.length = sig.parameters.length)
    (hstack : g.stack = argsL.reverse ++ .ref b :: rest) (hW : 2 * g.monitorRoom + (rest.map fun v => v.category).sum ≤ W9) (hdg : decode c.code g.pc = .ok (.invokevirtual index, 3))
    (hpre : ∀ vm₁, s.WarmedH vm₁ → Pre ⟨T.setVm vm₁, locs, cells, slots⟩ (Value.ref b :: argsL).toArray) :
    ∃ (v : Option Value) (vm₁ : Vm) (B : Pt), s.WarmedH vm₁ ∧ Stand p l e R s m args below meth c B.U B.locs B.cells B.slots ∧ Post ⟨T.setVm vm₁, locs, cells, slots⟩ (Value.ref b :: argsL).toArray v B ∧
      ∀ target, Steps p.tables e below (B.U.setTop { g with pc := g.pc + 3, stack := v.toList ++ rest }) target → Steps p.tables e below (T.setTop g) target := by
  obtain ⟨mk, methM, hnamed, hmethM, hstM, habM⟩ := Cond.instanceMethod_spec hinst
  obtain ⟨m8, methM', cM, hn8, hmethM', -, -, -, -, -, -, hsigM⟩ := Cond.codeWith_spec hcode
  cases Option.some.inj (hn8.symm.trans hnamed)
  cases hmethM.symm.trans hmethM'
  obtain ⟨c2, r2, m2, q1, q2, q3, q4, kP, hkP, hkPi⟩ := Cond.selects_spec hsel
  cases hcls.symm.trans q1
  cases (State.methodFound?_of_named hnamed hy).symm.trans q2
  cases hnamed.symm.trans q3
  have hselP : selectMethod e.platform s.vm cellB.cls mk = .method mk := by rw [Launch.admits_selectMethod X.admits]; exact q4
  obtain ⟨vm₁, X₁, hstep₁⟩ := X.invokevirtual hexec hown hlink hnamed hmethM hstM hkP hkPi hy (a := b) (cell := cellB) hcell
    (fun z h => by rw [h] at hobj; cases hobj) hselP hmethM habM hkP hkPi (g := g) hg (argsL := argsL) (rest := rest) (hlen _ hsigM) hstack hdg
  obtain ⟨v, B, X', hpost, hsteps⟩ := hK m meth c ⟨T.setVm vm₁, locs, cells, slots⟩ { g with stack := rest } (.invokevirtual index) mk (Value.ref b :: argsL).toArray X₁ hg hsize hdg hW (X₁.named hnamed) (hpre vm₁ X₁.warmed)
  exact ⟨v, vm₁, B, X₁.warmed, X', hpost, fun target h => hstep₁ _ fun acts => by rw [doInvoke_state]; exact hsteps.trans h⟩
abbrev vx_CVW (R : Room) (s : State) (args : Array Value) (own C : String) (index : Nat) (y : MethodName) (bytes : ByteArray) (maxL : Nat) (ret : Option FieldType) (hh : List (Nat × Nat × Nat × Nat)) (ws : List Cond) (rm : Room) (mc ms n : Nat) : Prop :=
  (rm.cells = mc ∧ rm.slots = ms ∧ rm.frames + 1 ≤ R.frames ∧ 8 + (maxL + 11) + rm.locals ≤ R.locals ∧ (∀ w ∈ ws, ∀ (a' : Array Value) (U : State), s.WarmedH U.vm → w.before a' U = true) ∧ Cond.codeWith y bytes maxL ret hh ∈ ws) ∧
  (Cond.codeWith y bytes maxL ret hh).before args s = true ∧ (Cond.initialized y.cls).before args s = true ∧ (y.cls ≠ "java/lang/invoke/MethodHandle" ∧ y.cls ≠ "java/lang/invoke/VarHandle") ∧
  (∀ sig, parseMethodDescriptor y.desc = some sig → n = sig.parameters.length) ∧ (Cond.methodLink own index y).before args s = true ∧ (Cond.instanceMethod y).before args s = true ∧ (Cond.selects C y y).before args s = true
theorem vx_cwVW {own C : String} {index maxL mc ms : Nat} {y : MethodName} {bytes : ByteArray} {ret : Option FieldType} {hh : List (Nat × Nat × Nat × Nat)} {Ts ws ws' : List Cond} {rm : Room} (n : Nat) (ht : ∀ w ∈ Ts, w.before args s = true) (hT : GoodIn Ts (wsV own index C y ws)) (hw : ws = Cond.codeWith y bytes maxL ret hh :: ws') (hrc : rm.cells = mc) (hrs : rm.slots = ms)
    (hd : y.cls = C ∧ y.cls ≠ "java/lang/invoke/MethodHandle" ∧ y.cls ≠ "java/lang/invoke/VarHandle" ∧ (parseMethodDescriptor y.desc).map (fun d => d.parameters.length) = some n) (hR : rm.frames + 1 ≤ R.frames ∧ 8 + (maxL + 11) + rm.locals ≤ R.locals) :
    vx_CVW R s args own C index y bytes maxL ret hh ws rm mc ms n := by
  obtain ⟨hC, hd⟩ := hd
  subst hC
  have ok : ∀ w ∈ wsV own index y.cls y ws, w.before args s = true := fun w h => ht w (hT w h).1
  have hG : GoodIn Ts ws := fun w h => hT w (by unfold wsV; exact List.mem_append_right _ h)
  have hc : Cond.codeWith y bytes maxL ret hh ∈ ws := by rw [hw]; exact List.mem_cons_self
  refine ⟨⟨hrc, hrs, hR.1, hR.2, pay_in ht hG, hc⟩, ht _ (hG _ hc).1, ok _ (by simp [wsV]), ⟨hd.1, hd.2.1⟩, fun sig h => ?_, ok _ (by simp [wsV]), ok _ (by simp [wsV]), ok _ (by simp [wsV])⟩
  have h2 := hd.2.2
  rw [h] at h2
  exact (Option.some.inj h2).symm
theorem vx_runVW {y : MethodName} {bytes cc : ByteArray} {maxL nL mc ms n index : Nat} {ret : Option FieldType} {hh : List (Nat × Nat × Nat × Nat)} {ws : List Cond} {rm : Room} {Pc : Array Value → State → Prop} {Qc : Array Value → State → Outcome → State → Prop} {free : Addr → Prop} {Ts : List Cond} {own C : String} {b : Addr} {As rest : List Value} {g : JFrame}
    (S : CallFix p m c cc nL s args Ts own) (hM : Met l y ws rm Pc Qc mc ms free) (cw : vx_CVW R s args own C index y bytes maxL ret hh ws rm mc ms n) (hp : PreV s H C b Pc As)
    (hg : g.method = m) (hn : As.length = n) (hsize : g.locals.size = nL) (hstack : g.stack = As.reverse ++ .ref b :: rest) (hW : 2 * g.monitorRoom + (rest.map fun v => v.category).sum ≤ 8) (hdg : decode cc g.pc = .ok (.invokevirtual index, 3)) (hf : cells + mc ≤ R.cells ∧ slots + ms ≤ R.slots) :
    va_Run p l e R s m args below meth c H locs cells slots mc ms g rest (Qc (Value.ref b :: As).toArray) free := by
  obtain ⟨⟨hrc, hrs, hfr, hlo, hws, hcw⟩, hcode, hini, hy, hlen, hl, hin, hse⟩ := cw
  have hK : Back l R p e below s args y 3 8 (PreOf R mc ms Pc) (PostOf Qc mc ms free) := va_backW (hh := hh) (bytes := bytes) (maxL := maxL) (ret := ret) hM hp.1 hrc hrs hfr hlo hws hcw (fun a' U hW => word_at hW (Or.inl (by first | rfl | simp [Cond.onTables, Cond.keeps, Cond.steady])) hini)
  obtain ⟨hx, hb, hml, ho, -⟩ := S
  obtain ⟨-, ⟨cellB, hcB, hoB, hclB⟩, hPc⟩ := hp
  intro T hT X
  obtain ⟨v, vm₁, ⟨U', l2, c2, s2⟩, hW₁, X', ⟨g', mk, t, L, e1, e2, hq, h1, hL, h2, h3⟩, st⟩ := vx_callVW X hx (C := C) (hh := hh) (bytes := bytes) (maxL := maxL) (ret := ret) ho hl hin hse hcode hy hK (by rw [hT]; exact hcB) hoB hclB hg (hsize.trans hml.symm) (argsL := As) (rest := rest) (fun sig h => hn.trans (hlen sig h)) hstack hW (by rw [hb]; exact hdg)
    (fun vm₁ hW₁ => ⟨hf.1, hf.2, hPc (T.setVm vm₁) hT hW₁⟩)
  dsimp only [Pt.U, Pt.locs, Pt.cells, Pt.slots] at X' e1 e2 h1 h2 h3 st
  subst h1; subst h2; subst h3
  exact ⟨v, (T.setVm vm₁).calling g' mk (Value.ref b :: As).toArray, t, U', L, hT, X', hL, e1, e2, hq, st⟩
section
variable {y : MethodName} {bytes cc : ByteArray} {maxL nL mc ms n index : Nat} {ret : Option FieldType} {ws : List Cond} {rm : Room} {Pc : Array Value → State → Prop} {Qc : Array Value → State → Outcome → State → Prop} {XC : String → State → State → Prop} {free : Addr → Prop} {Ts : List Cond} {own C : String} {b : Addr} {As rest : List Value} {g : JFrame}
theorem vx_runVX {hh : List (Nat × Nat × Nat × Nat)} (S : CallFix p m c cc nL s args Ts own) (hM : vx_Met l y ws rm Pc Qc XC mc ms free) (cw : vx_CVW R s args own C index y bytes maxL ret hh ws rm mc ms n) (hp : PreV s H C b Pc As)
    (hg : g.method = m) (hn : As.length = n) (hsize : g.locals.size = nL) (hstack : g.stack = As.reverse ++ .ref b :: rest) (hW : 2 * g.monitorRoom + (rest.map fun v => v.category).sum ≤ 8) (hdg : decode cc g.pc = .ok (.invokevirtual index, 3)) (hf : cells + mc ≤ R.cells ∧ slots + ms ≤ R.slots) :
    vx_Run p l e R s m args below meth c H locs cells slots mc ms g rest (Qc (Value.ref b :: As).toArray) XC free := by
  obtain ⟨⟨hrc, hrs, hfr, hlo, hws, hcw⟩, hcode, hini, hy, hlen, hl, hin, hse⟩ := cw
  have hK : vx_Back l R p e below s args y 3 8 (PreOf R mc ms Pc) (PostOf Qc mc ms free) (vx_Post XC mc ms free) := vx_backW (hh := hh) (bytes := bytes) (maxL := maxL) (ret := ret) hM hp.1 hrc hrs hfr hlo hws hcw (fun a' U hW => word_at hW (Or.inl (by first | rfl | simp [Cond.onTables, Cond.keeps, Cond.steady])) hini)
  obtain ⟨hx, hb, hml, ho, -⟩ := S
  obtain ⟨-, ⟨cellB, hcB, hoB, hclB⟩, hPc⟩ := hp
  intro T hT X
  rcases vx_callVX X hx (C := C) (hh := hh) (bytes := bytes) (maxL := maxL) (ret := ret) ho hl hin hse hcode hy hK (by rw [hT]; exact hcB) hoB hclB hg (hsize.trans hml.symm) (argsL := As) (rest := rest) (fun sig h => hn.trans (hlen sig h)) hstack hW (by rw [hb]; exact hdg)
    (fun vm₁ hW₁ => ⟨hf.1, hf.2, hPc (T.setVm vm₁) hT hW₁⟩) with ⟨v, vm₁, ⟨U', l2, c2, s2⟩, hW₁, X', ⟨g', mk, t, L, e1, e2, hq, h1, hL, h2, h3⟩, st⟩ | ⟨q, vm₁, ⟨U', l2, c2, s2⟩, hW₁, X', ⟨g', mk, t, L, E, ce, e1, e2, hq, hce, hcv, hcl, h1, hL, h2, h3⟩, st⟩
  · dsimp only [Pt.U, Pt.locs, Pt.cells, Pt.slots] at X' e1 e2 h1 h2 h3 st
    subst h1; subst h2; subst h3
    exact Or.inl ⟨v, (T.setVm vm₁).calling g' mk (Value.ref b :: As).toArray, t, U', L, hT, X', hL, e1, e2, hq, st⟩
  · dsimp only [Pt.U, Pt.locs, Pt.cells, Pt.slots] at X' e1 e2 h1 h2 h3 st hcl
    subst h1; subst h2; subst h3
    exact Or.inr ⟨q, (T.setVm vm₁).calling g' mk (Value.ref b :: As).toArray, t, U', L, E, ce, hT, X', hL, e1, e2, hq, hce, hcv, vx_cls hW₁ hcl, st⟩
theorem vx_runSX {hh : List (Nat × Nat × Nat × Nat)} (S : CallFix p m c cc nL s args Ts own) (hM : vx_Met l y ws rm Pc Qc XC mc ms free) (cw : vx_CSW R s args own index y bytes maxL ret hh ws rm mc ms n) (hp : PreS s H Pc As)
    (hg : g.method = m) (hn : As.length = n) (hsize : g.locals.size = nL) (hstack : g.stack = As.reverse ++ rest) (hW : 2 * g.monitorRoom + (rest.map fun v => v.category).sum ≤ 8) (hdg : decode cc g.pc = .ok (.invokestatic index, 3)) (hf : cells + mc ≤ R.cells ∧ slots + ms ≤ R.slots) :
    vx_Run p l e R s m args below meth c H locs cells slots mc ms g rest (Qc As.toArray) XC free := by
  obtain ⟨⟨hrc, hrs, hfr, hlo, hws, hcw⟩, hcode, hini, hy, hlen, hl, hstt⟩ := cw
  have hK : vx_Back l R p e below s args y 3 8 (PreOf R mc ms Pc) (PostOf Qc mc ms free) (vx_Post XC mc ms free) := vx_backW (hh := hh) (bytes := bytes) (maxL := maxL) (ret := ret) hM hp.1 hrc hrs hfr hlo hws hcw (fun a' U hW => word_at hW (Or.inl (by first | rfl | simp [Cond.onTables, Cond.keeps, Cond.steady])) hini)
  obtain ⟨hx, hb, hml, ho, -⟩ := S
  intro T hT X
  rcases vx_callSX X hx (hh := hh) (bytes := bytes) (maxL := maxL) (ret := ret) ho hl hstt hini hcode hy hK hg (hsize.trans hml.symm) (argsL := As) (rest := rest) (fun sig h => hn.trans (hlen sig h)) hstack hW (by rw [hb]; exact hdg)
    (fun vm₁ hW₁ => ⟨hf.1, hf.2, hp.2 (T.setVm vm₁) hT hW₁⟩) with ⟨v, vm₁, ⟨U', l2, c2, s2⟩, hW₁, X', ⟨g', mk, t, L, e1, e2, hq, h1, hL, h2, h3⟩, st⟩ | ⟨q, vm₁, ⟨U', l2, c2, s2⟩, hW₁, X', ⟨g', mk, t, L, E, ce, e1, e2, hq, hce, hcv, hcl, h1, hL, h2, h3⟩, st⟩
  · dsimp only [Pt.U, Pt.locs, Pt.cells, Pt.slots] at X' e1 e2 h1 h2 h3 st
    subst h1; subst h2; subst h3
    exact Or.inl ⟨v, (T.setVm vm₁).calling g' mk As.toArray, t, U', L, hT, X', hL, e1, e2, hq, st⟩
  · dsimp only [Pt.U, Pt.locs, Pt.cells, Pt.slots] at X' e1 e2 h1 h2 h3 st hcl
    subst h1; subst h2; subst h3
    exact Or.inr ⟨q, (T.setVm vm₁).calling g' mk As.toArray, t, U', L, E, ce, hT, X', hL, e1, e2, hq, hce, hcv, vx_cls hW₁ hcl, st⟩
end
end VXH
theorem vx_ofWH {l : Launch} {y : MethodName} {ws ws' : List Cond} {rm : Room} {Pc : Array Value → State → Prop} {Qc : Array Value → State → Outcome → State → Prop} {XC : String → State → State → Prop} {mc ms : Nat} {free : Addr → Prop} {cc : ByteArray} {maxL : Nat} {ret : Option FieldType} {hh : List (Nat × Nat × Nat × Nat)}
    (hy : plainName y.cls = true) (hw : ws = Cond.codeWith y cc maxL ret hh :: ws')
    (body : ∀ p e s m args below meth c s₁, BodyLoose p l y (headSpec ws rm) cc maxL ret e s m args below meth c s₁ → c.maxLocals = maxL → Pc args s →
      W p l e (headSpec ws rm).room s m args below meth c s.heap [] 0 0 (vx_MQ below Qc XC args s mc ms free) (entryFrame m args maxL)) : vx_Met l y ws rm Pc Qc XC mc ms free := by
  refine MetFree.of_bodyS (code := cc) (maxLocals := maxL) (ret := ret) hy ?_ ?_
  · intro args s m h hn
    obtain ⟨m9, meth, c, hn9, h1, h2, h3, h4, -, h5, h6, -⟩ := Cond.codeWith_spec (atoms_spec (ws := ws) h _ (by rw [hw]; exact List.mem_cons_self))
    cases hn.symm.trans hn9
    exact ⟨meth, c, h1, h2, h3, h4, h5, h6⟩
  · intro p e s m args below meth c s₁ B hml hP _
    have hh0 : s₁.heap = s.heap := by rw [B.state]; rfl
    obtain ⟨t, a1, o, b1, b2, b3⟩ := body p e s m args below meth c s₁ B hml hP s₁ hh0 (Stand.of_body B)
    exact ⟨t, o, a1, b1, b2, b3⟩
/-! ===== END ===== -/
end
section
/-! ===== BEGIN printed: names, fields, word lists, decode rows ===== -/
def RX0 : String := "DrillVault$Copy"
def TX0 : u_T := fun k => match k with
  | 0 => ("DrillVault$Copy", "number", "I", true)
  | 1 => ("DrillVault$Copy", "madeOn", "I", true)
  | 2 => ("DrillVault$Copy", "base", "LDrillVault$Copy;", true)
  | 3 => ("DrillVault$Copy", "changesAhead", "I", true)
  | 4 => ("DrillVault$Copy", "kept", "[I", true)
  | 5 => ("DrillVault$Copy", "keptContents", "I", false)
  | 6 => ("DrillVault$Copy", "damaged", "Z", false)
  | 7 => ("DrillVault$Copy", "proved", "Z", false)
  | 8 => ("DrillVault$Copy", "promised", "Z", false)
  | 9 => ("DrillVault$Copy", "needed", "Z", false)
  | _ => ("DrillVault$Copy", "held", "Z", false)
def tyX0 : Nat → FieldType := fun k => match k with
  | 0 => .int
  | 1 => .int
  | 2 => .object "DrillVault$Copy"
  | 3 => .int
  | 4 => .array .int
  | 5 => .int
  | 6 => .boolean
  | 7 => .boolean
  | 8 => .boolean
  | 9 => .boolean
  | _ => .boolean
abbrev wsX00 : List Cond := u_ws RX0 TX0 11
theorem nmX0 : ∀ a, a < 11 → ∀ b, b < 11 → a ≠ b → (TX0 a).2.1 ≠ (TX0 b).2.1 := by decide +kernel
theorem tyX0_ok : ∀ k, k < 11 → parseFieldDescriptor (TX0 k).2.2.1 = some (tyX0 k) := by decide +kernel
abbrev cX0_init : ByteArray := prog_2_method_1_code
def yX0_init : MethodName := ⟨RX0, "<init>", "(IILDrillVault$Copy;I)V"⟩
abbrev cX0_keep : ByteArray := prog_2_method_2_code
def yX0_keep : MethodName := ⟨RX0, "keep", "(II)V"⟩
abbrev cX0_spaceTaken : ByteArray := prog_2_method_3_code
def yX0_spaceTaken : MethodName := ⟨RX0, "spaceTaken", "()I"⟩
abbrev cX0_periodOf : ByteArray := prog_2_method_4_code
def yX0_periodOf : MethodName := ⟨RX0, "periodOf", "(I)I"⟩
abbrev cX0_contentByChain : ByteArray := prog_2_method_5_code
def yX0_contentByChain : MethodName := ⟨RX0, "contentByChain", "(I)I"⟩
abbrev cX0_hasDamagedChain : ByteArray := prog_2_method_6_code
def yX0_hasDamagedChain : MethodName := ⟨RX0, "hasDamagedChain", "()Z"⟩
abbrev cX0_proveChain : ByteArray := prog_2_method_7_code
def yX0_proveChain : MethodName := ⟨RX0, "proveChain", "(Z)V"⟩
abbrev cX0_chainLength : ByteArray := prog_2_method_8_code
def yX0_chainLength : MethodName := ⟨RX0, "chainLength", "()I"⟩
abbrev cX0_markChainNeeded : ByteArray := prog_2_method_9_code
def yX0_markChainNeeded : MethodName := ⟨RX0, "markChainNeeded", "()V"⟩
def RX1 : String := "DrillVault$Files"
def TX1 : u_T := fun k => match k with
  | 0 => ("DrillVault$Files", "contents", "[I", true)
  | 1 => ("DrillVault$Files", "changedFiles", "[I", true)
  | 2 => ("DrillVault$Files", "changedTo", "[I", true)
  | _ => ("DrillVault$Files", "changes", "I", false)
def tyX1 : Nat → FieldType := fun k => match k with
  | 0 => .array .int
  | 1 => .array .int
  | 2 => .array .int
  | _ => .int
abbrev wsX10 : List Cond := u_ws RX1 TX1 4
theorem nmX1 : ∀ a, a < 4 → ∀ b, b < 4 → a ≠ b → (TX1 a).2.1 ≠ (TX1 b).2.1 := by decide +kernel
theorem tyX1_ok : ∀ k, k < 4 → parseFieldDescriptor (TX1 k).2.2.1 = some (tyX1 k) := by decide +kernel
abbrev cX1_init : ByteArray := prog_3_method_1_code
def yX1_init : MethodName := ⟨RX1, "<init>", "()V"⟩
abbrev cX1_contentNow : ByteArray := prog_3_method_2_code
def yX1_contentNow : MethodName := ⟨RX1, "contentNow", "(I)I"⟩
abbrev cX1_write : ByteArray := prog_3_method_3_code
def yX1_write : MethodName := ⟨RX1, "write", "(II)V"⟩
abbrev cX1_keepAll : ByteArray := prog_3_method_4_code
def yX1_keepAll : MethodName := ⟨RX1, "keepAll", "(LDrillVault$Copy;)V"⟩
abbrev cX1_keepChanged : ByteArray := prog_3_method_5_code
def yX1_keepChanged : MethodName := ⟨RX1, "keepChanged", "(LDrillVault$Copy;I)V"⟩
abbrev cX1_contentAfter : ByteArray := prog_3_method_6_code
def yX1_contentAfter : MethodName := ⟨RX1, "contentAfter", "(II)I"⟩
def RX2 : String := "DrillVault$Rota"
def TX2 : u_T := fun k => match k with
  | _ => ("DrillVault$Rota", "persons", "[I", true)
def tyX2 : Nat → FieldType := fun k => match k with
  | _ => .array .int
abbrev wsX20 : List Cond := u_ws RX2 TX2 1
theorem nmX2 : ∀ a, a < 1 → ∀ b, b < 1 → a ≠ b → (TX2 a).2.1 ≠ (TX2 b).2.1 := by decide +kernel
theorem tyX2_ok : ∀ k, k < 1 → parseFieldDescriptor (TX2 k).2.2.1 = some (tyX2 k) := by decide +kernel
abbrev cX2_init : ByteArray := prog_4_method_1_code
def yX2_init : MethodName := ⟨RX2, "<init>", "()V"⟩
abbrev cX2_personOn : ByteArray := prog_4_method_2_code
def yX2_personOn : MethodName := ⟨RX2, "personOn", "(I)I"⟩
abbrev cX2_exchangeIfRested : ByteArray := prog_4_method_3_code
def yX2_exchangeIfRested : MethodName := ⟨RX2, "exchangeIfRested", "(II)Z"⟩
abbrev cX2_exchange : ByteArray := prog_4_method_4_code
def yX2_exchange : MethodName := ⟨RX2, "exchange", "(II)V"⟩
abbrev cX2_isRestedAround : ByteArray := prog_4_method_5_code
def yX2_isRestedAround : MethodName := ⟨RX2, "isRestedAround", "(I)Z"⟩
abbrev cX2_firstToAnswer : ByteArray := prog_4_method_6_code
def yX2_firstToAnswer : MethodName := ⟨RX2, "firstToAnswer", "(II)I"⟩
def RX3 : String := "DrillVault$Shelf"
def TX3 : u_T := fun k => match k with
  | 0 => ("DrillVault$Shelf", "rows", "[LDrillVault$Copy;", true)
  | 1 => ("DrillVault$Shelf", "made", "I", false)
  | 2 => ("DrillVault$Shelf", "daysRule", "I", false)
  | 3 => ("DrillVault$Shelf", "weeksRule", "I", false)
  | _ => ("DrillVault$Shelf", "monthsRule", "I", false)
def tyX3 : Nat → FieldType := fun k => match k with
  | 0 => .array (.object "DrillVault$Copy")
  | 1 => .int
  | 2 => .int
  | 3 => .int
  | _ => .int
abbrev wsX30 : List Cond := u_ws RX3 TX3 5
theorem nmX3 : ∀ a, a < 5 → ∀ b, b < 5 → a ≠ b → (TX3 a).2.1 ≠ (TX3 b).2.1 := by decide +kernel
theorem tyX3_ok : ∀ k, k < 5 → parseFieldDescriptor (TX3 k).2.2.1 = some (tyX3 k) := by decide +kernel
abbrev cX3_init : ByteArray := prog_5_method_1_code
def yX3_init : MethodName := ⟨RX3, "<init>", "()V"⟩
abbrev cX3_find : ByteArray := prog_5_method_2_code
def yX3_find : MethodName := ⟨RX3, "find", "(I)LDrillVault$Copy;"⟩
abbrev cX3_latest : ByteArray := prog_5_method_3_code
def yX3_latest : MethodName := ⟨RX3, "latest", "()LDrillVault$Copy;"⟩
abbrev cX3_put : ByteArray := prog_5_method_4_code
def yX3_put : MethodName := ⟨RX3, "put", "(LDrillVault$Copy;)V"⟩
abbrev cX3_countThere : ByteArray := prog_5_method_5_code
def yX3_countThere : MethodName := ⟨RX3, "countThere", "()I"⟩
abbrev cX3_spaceTaken : ByteArray := prog_5_method_6_code
def yX3_spaceTaken : MethodName := ⟨RX3, "spaceTaken", "()I"⟩
abbrev cX3_markGenerations : ByteArray := prog_5_method_7_code
def yX3_markGenerations : MethodName := ⟨RX3, "markGenerations", "()V"⟩
abbrev cX3_promiseLatest : ByteArray := prog_5_method_8_code
def yX3_promiseLatest : MethodName := ⟨RX3, "promiseLatest", "(II)V"⟩
abbrev cX3_countPromised : ByteArray := prog_5_method_9_code
def yX3_countPromised : MethodName := ⟨RX3, "countPromised", "()I"⟩
abbrev cX3_countPromisedButDamaged : ByteArray := prog_5_method_10_code
def yX3_countPromisedButDamaged : MethodName := ⟨RX3, "countPromisedButDamaged", "()I"⟩
abbrev cX3_takeOffLoose : ByteArray := prog_5_method_11_code
def yX3_takeOffLoose : MethodName := ⟨RX3, "takeOffLoose", "()I"⟩
abbrev cX3_latestProvedDay : ByteArray := prog_5_method_12_code
def yX3_latestProvedDay : MethodName := ⟨RX3, "latestProvedDay", "()I"⟩
abbrev cX3_markHeld : ByteArray := prog_5_method_13_code
def yX3_markHeld : MethodName := ⟨RX3, "markHeld", "(I)V"⟩
def RX4 : String := "DrillVault"
def TX4 : u_T := fun k => match k with
  | 0 => ("DrillVault", "files", "LDrillVault$Files;", true)
  | 1 => ("DrillVault", "shelf", "LDrillVault$Shelf;", true)
  | 2 => ("DrillVault", "rota", "LDrillVault$Rota;", true)
  | _ => ("DrillVault", "today", "I", false)
def tyX4 : Nat → FieldType := fun k => match k with
  | 0 => .object "DrillVault$Files"
  | 1 => .object "DrillVault$Shelf"
  | 2 => .object "DrillVault$Rota"
  | _ => .int
abbrev wsX40 : List Cond := u_ws RX4 TX4 4
theorem nmX4 : ∀ a, a < 4 → ∀ b, b < 4 → a ≠ b → (TX4 a).2.1 ≠ (TX4 b).2.1 := by decide +kernel
theorem tyX4_ok : ∀ k, k < 4 → parseFieldDescriptor (TX4 k).2.2.1 = some (tyX4 k) := by decide +kernel
abbrev cX4_init : ByteArray := prog_1_method_1_code
def yX4_init : MethodName := ⟨RX4, "<init>", "()V"⟩
abbrev cX4_change : ByteArray := prog_1_method_2_code
def yX4_change : MethodName := ⟨RX4, "change", "(II)I"⟩
abbrev cX4_pass : ByteArray := prog_1_method_3_code
def yX4_pass : MethodName := ⟨RX4, "pass", "(I)I"⟩
abbrev cX4_full : ByteArray := prog_1_method_4_code
def yX4_full : MethodName := ⟨RX4, "full", "()I"⟩
abbrev cX4_increment : ByteArray := prog_1_method_5_code
def yX4_increment : MethodName := ⟨RX4, "increment", "()I"⟩
abbrev cX4_damage : ByteArray := prog_1_method_6_code
def yX4_damage : MethodName := ⟨RX4, "damage", "(I)I"⟩
abbrev cX4_drill : ByteArray := prog_1_method_7_code
def yX4_drill : MethodName := ⟨RX4, "drill", "(I)I"⟩
abbrev cX4_setRules : ByteArray := prog_1_method_8_code
def yX4_setRules : MethodName := ⟨RX4, "setRules", "(III)I"⟩
abbrev cX4_thin : ByteArray := prog_1_method_9_code
def yX4_thin : MethodName := ⟨RX4, "thin", "()I"⟩
abbrev cX4_day : ByteArray := prog_1_method_10_code
def yX4_day : MethodName := ⟨RX4, "day", "()I"⟩
abbrev cX4_copies : ByteArray := prog_1_method_11_code
def yX4_copies : MethodName := ⟨RX4, "copies", "()I"⟩
abbrev cX4_space : ByteArray := prog_1_method_12_code
def yX4_space : MethodName := ⟨RX4, "space", "()I"⟩
abbrev cX4_dayOf : ByteArray := prog_1_method_13_code
def yX4_dayOf : MethodName := ⟨RX4, "dayOf", "(I)I"⟩
abbrev cX4_baseOf : ByteArray := prog_1_method_14_code
def yX4_baseOf : MethodName := ⟨RX4, "baseOf", "(I)I"⟩
abbrev cX4_keeps : ByteArray := prog_1_method_15_code
def yX4_keeps : MethodName := ⟨RX4, "keeps", "(I)I"⟩
abbrev cX4_isPromised : ByteArray := prog_1_method_16_code
def yX4_isPromised : MethodName := ⟨RX4, "isPromised", "(I)Z"⟩
abbrev cX4_isNeeded : ByteArray := prog_1_method_17_code
def yX4_isNeeded : MethodName := ⟨RX4, "isNeeded", "(I)Z"⟩
abbrev cX4_isProved : ByteArray := prog_1_method_18_code
def yX4_isProved : MethodName := ⟨RX4, "isProved", "(I)Z"⟩
abbrev cX4_restore : ByteArray := prog_1_method_19_code
def yX4_restore : MethodName := ⟨RX4, "restore", "(II)I"⟩
abbrev cX4_restoreByChanges : ByteArray := prog_1_method_20_code
def yX4_restoreByChanges : MethodName := ⟨RX4, "restoreByChanges", "(II)I"⟩
abbrev cX4_onCall : ByteArray := prog_1_method_21_code
def yX4_onCall : MethodName := ⟨RX4, "onCall", "(I)I"⟩
abbrev cX4_swap : ByteArray := prog_1_method_22_code
def yX4_swap : MethodName := ⟨RX4, "swap", "(II)I"⟩
abbrev cX4_alarm : ByteArray := prog_1_method_23_code
def yX4_alarm : MethodName := ⟨RX4, "alarm", "(I)I"⟩
abbrev cX4_requireFile : ByteArray := prog_1_method_24_code
def yX4_requireFile : MethodName := ⟨RX4, "requireFile", "(I)V"⟩
abbrev cX4_requireCopy : ByteArray := prog_1_method_25_code
def yX4_requireCopy : MethodName := ⟨RX4, "requireCopy", "(I)LDrillVault$Copy;"⟩
abbrev cX4_isOpenForSwaps : ByteArray := prog_1_method_26_code
def yX4_isOpenForSwaps : MethodName := ⟨RX4, "isOpenForSwaps", "(I)Z"⟩
def RX5 : String := "DrillVaultModel"
def TX5 : u_T := fun k => match k with
  | 0 => ("DrillVaultModel", "contents", "[I", true)
  | 1 => ("DrillVaultModel", "changed", "[I", true)
  | 2 => ("DrillVaultModel", "changes", "I", false)
  | 3 => ("DrillVaultModel", "day", "I", false)
  | 4 => ("DrillVaultModel", "days", "[I", true)
  | 5 => ("DrillVaultModel", "bases", "[I", true)
  | 6 => ("DrillVaultModel", "sizes", "[I", true)
  | 7 => ("DrillVaultModel", "madeAt", "[I", true)
  | 8 => ("DrillVaultModel", "kept", "[I", true)
  | 9 => ("DrillVaultModel", "there", "[Z", true)
  | 10 => ("DrillVaultModel", "damaged", "[Z", true)
  | 11 => ("DrillVaultModel", "proved", "[Z", true)
  | 12 => ("DrillVaultModel", "made", "I", false)
  | 13 => ("DrillVaultModel", "dayRule", "I", false)
  | 14 => ("DrillVaultModel", "weekRule", "I", false)
  | 15 => ("DrillVaultModel", "monthRule", "I", false)
  | 16 => ("DrillVaultModel", "promised", "[Z", true)
  | 17 => ("DrillVaultModel", "needed", "[Z", true)
  | 18 => ("DrillVaultModel", "loose", "[Z", true)
  | 19 => ("DrillVaultModel", "rota", "[I", true)
  | _ => ("DrillVaultModel", "last", "I", false)
def tyX5 : Nat → FieldType := fun k => match k with
  | 0 => .array .int
  | 1 => .array .int
  | 2 => .int
  | 3 => .int
  | 4 => .array .int
  | 5 => .array .int
  | 6 => .array .int
  | 7 => .array .int
  | 8 => .array .int
  | 9 => .array .boolean
  | 10 => .array .boolean
  | 11 => .array .boolean
  | 12 => .int
  | 13 => .int
  | 14 => .int
  | 15 => .int
  | 16 => .array .boolean
  | 17 => .array .boolean
  | 18 => .array .boolean
  | 19 => .array .int
  | _ => .int
abbrev wsX50 : List Cond := u_ws RX5 TX5 21
theorem nmX5 : ∀ a, a < 21 → ∀ b, b < 21 → a ≠ b → (TX5 a).2.1 ≠ (TX5 b).2.1 := by decide +kernel
theorem tyX5_ok : ∀ k, k < 21 → parseFieldDescriptor (TX5 k).2.2.1 = some (tyX5 k) := by decide +kernel
abbrev cX5_init : ByteArray := prog_7_method_1_code
def yX5_init : MethodName := ⟨RX5, "<init>", "()V"⟩
abbrev cX5_thrown : ByteArray := prog_7_method_2_code
def yX5_thrown : MethodName := ⟨RX5, "thrown", "()I"⟩
abbrev cX5_in : ByteArray := prog_7_method_3_code
def yX5_in : MethodName := ⟨RX5, "in", "(III)Z"⟩
abbrev cX5_goes : ByteArray := prog_7_method_4_code
def yX5_goes : MethodName := ⟨RX5, "goes", "(ZZZ)Z"⟩
abbrev cX5_isCopy : ByteArray := prog_7_method_5_code
def yX5_isCopy : MethodName := ⟨RX5, "isCopy", "(I)Z"⟩
abbrev cX5_isFile : ByteArray := prog_7_method_6_code
def yX5_isFile : MethodName := ⟨RX5, "isFile", "(I)Z"⟩
abbrev cX5_change : ByteArray := prog_7_method_7_code
def yX5_change : MethodName := ⟨RX5, "change", "(II)I"⟩
abbrev cX5_pass : ByteArray := prog_7_method_8_code
def yX5_pass : MethodName := ⟨RX5, "pass", "(I)I"⟩
abbrev cX5_latest : ByteArray := prog_7_method_9_code
def yX5_latest : MethodName := ⟨RX5, "latest", "()I"⟩
abbrev cX5_makes : ByteArray := prog_7_method_10_code
def yX5_makes : MethodName := ⟨RX5, "makes", "(I)I"⟩
abbrev cX5_full : ByteArray := prog_7_method_11_code
def yX5_full : MethodName := ⟨RX5, "full", "()I"⟩
abbrev cX5_increment : ByteArray := prog_7_method_12_code
def yX5_increment : MethodName := ⟨RX5, "increment", "()I"⟩
abbrev cX5_promises : ByteArray := prog_7_method_13_code
def yX5_promises : MethodName := ⟨RX5, "promises", "(II)V"⟩
abbrev cX5_marks : ByteArray := prog_7_method_14_code
def yX5_marks : MethodName := ⟨RX5, "marks", "()I"⟩
abbrev cX5_isBroken : ByteArray := prog_7_method_15_code
def yX5_isBroken : MethodName := ⟨RX5, "isBroken", "(I)Z"⟩
abbrev cX5_damage : ByteArray := prog_7_method_16_code
def yX5_damage : MethodName := ⟨RX5, "damage", "(I)I"⟩
abbrev cX5_drill : ByteArray := prog_7_method_17_code
def yX5_drill : MethodName := ⟨RX5, "drill", "(I)I"⟩
abbrev cX5_setRules : ByteArray := prog_7_method_18_code
def yX5_setRules : MethodName := ⟨RX5, "setRules", "(III)I"⟩
abbrev cX5_thin : ByteArray := prog_7_method_19_code
def yX5_thin : MethodName := ⟨RX5, "thin", "()I"⟩
abbrev cX5_day : ByteArray := prog_7_method_20_code
def yX5_day : MethodName := ⟨RX5, "day", "()I"⟩
abbrev cX5_copies : ByteArray := prog_7_method_21_code
def yX5_copies : MethodName := ⟨RX5, "copies", "()I"⟩
abbrev cX5_space : ByteArray := prog_7_method_22_code
def yX5_space : MethodName := ⟨RX5, "space", "()I"⟩
abbrev cX5_dayOf : ByteArray := prog_7_method_23_code
def yX5_dayOf : MethodName := ⟨RX5, "dayOf", "(I)I"⟩
abbrev cX5_baseOf : ByteArray := prog_7_method_24_code
def yX5_baseOf : MethodName := ⟨RX5, "baseOf", "(I)I"⟩
abbrev cX5_keeps : ByteArray := prog_7_method_25_code
def yX5_keeps : MethodName := ⟨RX5, "keeps", "(I)I"⟩
abbrev cX5_isPromised : ByteArray := prog_7_method_26_code
def yX5_isPromised : MethodName := ⟨RX5, "isPromised", "(I)Z"⟩
abbrev cX5_isNeeded : ByteArray := prog_7_method_27_code
def yX5_isNeeded : MethodName := ⟨RX5, "isNeeded", "(I)Z"⟩
abbrev cX5_isProved : ByteArray := prog_7_method_28_code
def yX5_isProved : MethodName := ⟨RX5, "isProved", "(I)Z"⟩
abbrev cX5_restore : ByteArray := prog_7_method_29_code
def yX5_restore : MethodName := ⟨RX5, "restore", "(II)I"⟩
abbrev cX5_restoreByChanges : ByteArray := prog_7_method_30_code
def yX5_restoreByChanges : MethodName := ⟨RX5, "restoreByChanges", "(II)I"⟩
abbrev cX5_isDay : ByteArray := prog_7_method_31_code
def yX5_isDay : MethodName := ⟨RX5, "isDay", "(I)Z"⟩
abbrev cX5_onCall : ByteArray := prog_7_method_32_code
def yX5_onCall : MethodName := ⟨RX5, "onCall", "(I)I"⟩
abbrev cX5_isTwice : ByteArray := prog_7_method_33_code
def yX5_isTwice : MethodName := ⟨RX5, "isTwice", "(I)Z"⟩
abbrev cX5_exchanges : ByteArray := prog_7_method_34_code
def yX5_exchanges : MethodName := ⟨RX5, "exchanges", "(II)V"⟩
abbrev cX5_swap : ByteArray := prog_7_method_35_code
def yX5_swap : MethodName := ⟨RX5, "swap", "(II)I"⟩
abbrev cX5_alarm : ByteArray := prog_7_method_36_code
def yX5_alarm : MethodName := ⟨RX5, "alarm", "(I)I"⟩
def RJ9 : String := "java/lang/Math"
def TJ9 : u_T := fun k => match k with
  | _ => ("", "", "", false)
def tyJ9 : Nat → FieldType := fun k => match k with
  | _ => .int
abbrev wsJ90 : List Cond := u_ws RJ9 TJ9 0
theorem nmJ9 : ∀ a, a < 0 → ∀ b, b < 0 → a ≠ b → (TJ9 a).2.1 ≠ (TJ9 b).2.1 := by decide +kernel
theorem tyJ9_ok : ∀ k, k < 0 → parseFieldDescriptor (TJ9 k).2.2.1 = some (tyJ9 k) := by decide +kernel
abbrev cJ9_max_7cf53 : ByteArray := prog_12_method_65_code
def yJ9_max_7cf53 : MethodName := ⟨RJ9, "max", "(II)I"⟩
def RJ0 : String := "java/lang/String"
def TJ0 : u_T := fun k => match k with
  | _ => ("", "", "", false)
def tyJ0 : Nat → FieldType := fun k => match k with
  | _ => .int
abbrev wsJ00 : List Cond := u_ws RJ0 TJ0 0
theorem nmJ0 : ∀ a, a < 0 → ∀ b, b < 0 → a ≠ b → (TJ0 a).2.1 ≠ (TJ0 b).2.1 := by decide +kernel
theorem tyJ0_ok : ∀ k, k < 0 → parseFieldDescriptor (TJ0 k).2.2.1 = some (tyJ0 k) := by decide +kernel
def RL : String := "DrillVaultLaw"
abbrev cL_change : ByteArray := method_3_code
def yL_change : MethodName := ⟨RL, "change", "(LDrillVault;II[J)I"⟩
abbrev cL_pass : ByteArray := method_4_code
def yL_pass : MethodName := ⟨RL, "pass", "(LDrillVault;I[J)I"⟩
abbrev cL_full : ByteArray := method_5_code
def yL_full : MethodName := ⟨RL, "full", "(LDrillVault;[J)I"⟩
abbrev cL_increment : ByteArray := method_6_code
def yL_increment : MethodName := ⟨RL, "increment", "(LDrillVault;[J)I"⟩
abbrev cL_damage : ByteArray := method_7_code
def yL_damage : MethodName := ⟨RL, "damage", "(LDrillVault;I[J)I"⟩
abbrev cL_drill : ByteArray := method_8_code
def yL_drill : MethodName := ⟨RL, "drill", "(LDrillVault;I[J)I"⟩
abbrev cL_setRules : ByteArray := method_9_code
def yL_setRules : MethodName := ⟨RL, "setRules", "(LDrillVault;III[J)I"⟩
abbrev cL_dayOf : ByteArray := method_10_code
def yL_dayOf : MethodName := ⟨RL, "dayOf", "(LDrillVault;I[J)I"⟩
abbrev cL_baseOf : ByteArray := method_11_code
def yL_baseOf : MethodName := ⟨RL, "baseOf", "(LDrillVault;I[J)I"⟩
abbrev cL_keeps : ByteArray := method_12_code
def yL_keeps : MethodName := ⟨RL, "keeps", "(LDrillVault;I[J)I"⟩
abbrev cL_isPromised : ByteArray := method_13_code
def yL_isPromised : MethodName := ⟨RL, "isPromised", "(LDrillVault;I[J)I"⟩
abbrev cL_isNeeded : ByteArray := method_14_code
def yL_isNeeded : MethodName := ⟨RL, "isNeeded", "(LDrillVault;I[J)I"⟩
abbrev cL_isProved : ByteArray := method_15_code
def yL_isProved : MethodName := ⟨RL, "isProved", "(LDrillVault;I[J)I"⟩
abbrev cL_restore : ByteArray := method_16_code
def yL_restore : MethodName := ⟨RL, "restore", "(LDrillVault;II[J)I"⟩
abbrev cL_restoreByChanges : ByteArray := method_17_code
def yL_restoreByChanges : MethodName := ⟨RL, "restoreByChanges", "(LDrillVault;II[J)I"⟩
abbrev cL_onCall : ByteArray := method_18_code
def yL_onCall : MethodName := ⟨RL, "onCall", "(LDrillVault;I[J)I"⟩
abbrev cL_swap : ByteArray := method_19_code
def yL_swap : MethodName := ⟨RL, "swap", "(LDrillVault;II[J)I"⟩
abbrev cL_alarm : ByteArray := method_20_code
def yL_alarm : MethodName := ⟨RL, "alarm", "(LDrillVault;I[J)I"⟩
abbrev cL_law : ByteArray := code
def yL_law : MethodName := ⟨RL, "law", "([I)Z"⟩
def wsX0_init : List Cond := .code yX0_init cX0_init 6 none :: ([.methodLink RX0 3 objectInit, .instanceMethod objectInit, .code objectInit ⟨#[0xb1]⟩ 1 none, .arrayClass .int, .fieldLink RX0 9 "DrillVault$Copy" "kept" "[I", .fieldLink RX0 15 "DrillVault$Copy" "number" "I", .fieldLink RX0 19 "DrillVault$Copy" "madeOn" "I", .fieldLink RX0 22 "DrillVault$Copy" "base" "LDrillVault$Copy;", .fieldLink RX0 26 "DrillVault$Copy" "changesAhead" "I"] ++ wsX00)
def wsX0_keep : List Cond := .code yX0_keep cX0_keep 3 none :: ([.fieldLink RX0 9 "DrillVault$Copy" "kept" "[I", .fieldLink RX0 29 "DrillVault$Copy" "keptContents" "I"] ++ wsX00)
def wsX0_spaceTaken : List Cond := .code yX0_spaceTaken cX0_spaceTaken 1 (some .int) :: ([.fieldLink RX0 29 "DrillVault$Copy" "keptContents" "I"] ++ wsX00)
def wsX0_periodOf : List Cond := .code yX0_periodOf cX0_periodOf 2 (some .int) :: ([.fieldLink RX0 19 "DrillVault$Copy" "madeOn" "I"] ++ wsX00)
def wsX0_contentByChain : List Cond := .code yX0_contentByChain cX0_contentByChain 3 (some .int) :: ([.fieldLink RX0 9 "DrillVault$Copy" "kept" "[I", .fieldLink RX0 22 "DrillVault$Copy" "base" "LDrillVault$Copy;"] ++ wsX00)
def wsX0_hasDamagedChain : List Cond := .code yX0_hasDamagedChain cX0_hasDamagedChain 2 (some .boolean) :: ([.fieldLink RX0 32 "DrillVault$Copy" "damaged" "Z", .fieldLink RX0 22 "DrillVault$Copy" "base" "LDrillVault$Copy;"] ++ wsX00)
def wsX0_proveChain : List Cond := .code yX0_proveChain cX0_proveChain 3 none :: ([.fieldLink RX0 36 "DrillVault$Copy" "proved" "Z", .fieldLink RX0 22 "DrillVault$Copy" "base" "LDrillVault$Copy;"] ++ wsX00)
def wsX0_chainLength : List Cond := .code yX0_chainLength cX0_chainLength 3 (some .int) :: ([.fieldLink RX0 22 "DrillVault$Copy" "base" "LDrillVault$Copy;"] ++ wsX00)
def wsX0_markChainNeeded : List Cond := .code yX0_markChainNeeded cX0_markChainNeeded 2 none :: ([.fieldLink RX0 39 "DrillVault$Copy" "needed" "Z", .fieldLink RX0 22 "DrillVault$Copy" "base" "LDrillVault$Copy;"] ++ wsX00)
def wsX1_init : List Cond := .code yX1_init cX1_init 1 none :: ([.methodLink RX1 3 objectInit, .instanceMethod objectInit, .code objectInit ⟨#[0xb1]⟩ 1 none, .arrayClass .int, .fieldLink RX1 9 "DrillVault$Files" "contents" "[I", .fieldLink RX1 15 "DrillVault$Files" "changedFiles" "[I", .fieldLink RX1 18 "DrillVault$Files" "changedTo" "[I"] ++ wsX10)
def wsX1_contentNow : List Cond := .code yX1_contentNow cX1_contentNow 2 (some .int) :: ([.fieldLink RX1 9 "DrillVault$Files" "contents" "[I"] ++ wsX10)
def wsX1_write : List Cond := .code yX1_write cX1_write 3 none :: ([.fieldLink RX1 9 "DrillVault$Files" "contents" "[I", .fieldLink RX1 21 "DrillVault$Files" "changes" "I", .fieldLink RX1 15 "DrillVault$Files" "changedFiles" "[I", .fieldLink RX1 18 "DrillVault$Files" "changedTo" "[I"] ++ wsX10)
def wsX1_keepAll : List Cond := .code yX1_keepAll cX1_keepAll 3 none :: ([.fieldLink RX1 9 "DrillVault$Files" "contents" "[I", .methodLink RX1 25 yX0_keep, .instanceMethod yX0_keep, .selects RX0 yX0_keep yX0_keep, .initialized RX0, .code yX0_keep cX0_keep 3 none, .fieldLink RX0 9 "DrillVault$Copy" "kept" "[I", .fieldLink RX0 29 "DrillVault$Copy" "keptContents" "I"] ++ wsX10 ++ wsX00)
def wsX1_keepChanged : List Cond := .code yX1_keepChanged cX1_keepChanged 4 none :: ([.methodLink RX1 31 Lib.Math.max.name, .static Lib.Math.max.name, .initialized "java/lang/Math", .code Lib.Math.max.name Lib.Math.max.code 2 (some .int), .fieldLink RX1 21 "DrillVault$Files" "changes" "I", .fieldLink RX1 15 "DrillVault$Files" "changedFiles" "[I", .methodLink RX1 37 yX1_contentNow, .instanceMethod yX1_contentNow, .selects RX1 yX1_contentNow yX1_contentNow, .initialized RX1, .code yX1_contentNow cX1_contentNow 2 (some .int), .fieldLink RX1 9 "DrillVault$Files" "contents" "[I", .methodLink RX1 25 yX0_keep, .instanceMethod yX0_keep, .selects RX0 yX0_keep yX0_keep, .initialized RX0, .code yX0_keep cX0_keep 3 none, .fieldLink RX0 9 "DrillVault$Copy" "kept" "[I", .fieldLink RX0 29 "DrillVault$Copy" "keptContents" "I"] ++ wsX10 ++ wsX00)
def wsX1_contentAfter : List Cond := .code yX1_contentAfter cX1_contentAfter 5 (some .int) :: ([.fieldLink RX1 15 "DrillVault$Files" "changedFiles" "[I", .fieldLink RX1 18 "DrillVault$Files" "changedTo" "[I"] ++ wsX10)
def wsX2_init : List Cond := .code yX2_init cX2_init 2 none :: ([.methodLink RX2 3 objectInit, .instanceMethod objectInit, .code objectInit ⟨#[0xb1]⟩ 1 none, .arrayClass .int, .fieldLink RX2 9 "DrillVault$Rota" "persons" "[I"] ++ wsX20)
def wsX2_personOn : List Cond := .code yX2_personOn cX2_personOn 2 (some .int) :: ([.fieldLink RX2 9 "DrillVault$Rota" "persons" "[I"] ++ wsX20)
def wsX2_exchange : List Cond := .code yX2_exchange cX2_exchange 4 none :: ([.fieldLink RX2 9 "DrillVault$Rota" "persons" "[I"] ++ wsX20)
def wsX2_isRestedAround : List Cond := .code yX2_isRestedAround cX2_isRestedAround 3 (some .boolean) :: ([.methodLink RX2 23 yX2_personOn, .instanceMethod yX2_personOn, .selects RX2 yX2_personOn yX2_personOn, .initialized RX2, .code yX2_personOn cX2_personOn 2 (some .int), .fieldLink RX2 9 "DrillVault$Rota" "persons" "[I"] ++ wsX20)
def wsX2_exchangeIfRested : List Cond := .code yX2_exchangeIfRested cX2_exchangeIfRested 3 (some .boolean) :: ([.methodLink RX2 15 yX2_exchange, .instanceMethod yX2_exchange, .selects RX2 yX2_exchange yX2_exchange, .initialized RX2, .code yX2_exchange cX2_exchange 4 none, .fieldLink RX2 9 "DrillVault$Rota" "persons" "[I", .methodLink RX2 19 yX2_isRestedAround, .instanceMethod yX2_isRestedAround, .selects RX2 yX2_isRestedAround yX2_isRestedAround, .code yX2_isRestedAround cX2_isRestedAround 3 (some .boolean), .methodLink RX2 23 yX2_personOn, .instanceMethod yX2_personOn, .selects RX2 yX2_personOn yX2_personOn, .code yX2_personOn cX2_personOn 2 (some .int)] ++ wsX20)
def wsX2_firstToAnswer : List Cond := .code yX2_firstToAnswer cX2_firstToAnswer 5 (some .int) :: ([.methodLink RX2 23 yX2_personOn, .instanceMethod yX2_personOn, .selects RX2 yX2_personOn yX2_personOn, .initialized RX2, .code yX2_personOn cX2_personOn 2 (some .int), .fieldLink RX2 9 "DrillVault$Rota" "persons" "[I"] ++ wsX20)
def wsX3_init : List Cond := .code yX3_init cX3_init 1 none :: ([.methodLink RX3 3 objectInit, .instanceMethod objectInit, .code objectInit ⟨#[0xb1]⟩ 1 none, .classLink RX3 9 RX0, .fieldLink RX3 11 "DrillVault$Shelf" "rows" "[LDrillVault$Copy;", .fieldLink RX3 17 "DrillVault$Shelf" "daysRule" "I", .fieldLink RX3 21 "DrillVault$Shelf" "weeksRule" "I", .fieldLink RX3 24 "DrillVault$Shelf" "monthsRule" "I"] ++ wsX30)
def wsX3_find : List Cond := .code yX3_find cX3_find 2 (some (.object "DrillVault$Copy")) :: ([.fieldLink RX3 11 "DrillVault$Shelf" "rows" "[LDrillVault$Copy;"] ++ wsX30)
def wsX3_latest : List Cond := .code yX3_latest cX3_latest 2 (some (.object "DrillVault$Copy")) :: ([.fieldLink RX3 11 "DrillVault$Shelf" "rows" "[LDrillVault$Copy;"] ++ wsX30)
def wsX3_put : List Cond := .code yX3_put cX3_put 2 none :: ([.fieldLink RX3 27 "DrillVault$Shelf" "made" "I", .fieldLink RX3 11 "DrillVault$Shelf" "rows" "[LDrillVault$Copy;"] ++ wsX30)
def wsX3_countThere : List Cond := .code yX3_countThere cX3_countThere 6 (some .int) :: ([.fieldLink RX3 11 "DrillVault$Shelf" "rows" "[LDrillVault$Copy;"] ++ wsX30)
def wsX3_spaceTaken : List Cond := .code yX3_spaceTaken cX3_spaceTaken 6 (some .int) :: ([.fieldLink RX3 11 "DrillVault$Shelf" "rows" "[LDrillVault$Copy;", .methodLink RX3 30 yX0_spaceTaken, .instanceMethod yX0_spaceTaken, .selects RX0 yX0_spaceTaken yX0_spaceTaken, .initialized RX0, .code yX0_spaceTaken cX0_spaceTaken 1 (some .int), .fieldLink RX0 29 "DrillVault$Copy" "keptContents" "I"] ++ wsX30 ++ wsX00)
def wsX3_promiseLatest : List Cond := .code yX3_promiseLatest cX3_promiseLatest 7 none :: ([.fieldLink RX3 11 "DrillVault$Shelf" "rows" "[LDrillVault$Copy;", .methodLink RX3 48 yX0_periodOf, .instanceMethod yX0_periodOf, .selects RX0 yX0_periodOf yX0_periodOf, .initialized RX0, .code yX0_periodOf cX0_periodOf 2 (some .int), .fieldLink RX0 19 "DrillVault$Copy" "madeOn" "I"] ++ wsX30 ++ wsX00)
def wsX3_markGenerations : List Cond := .code yX3_markGenerations cX3_markGenerations 5 none :: ([.fieldLink RX3 11 "DrillVault$Shelf" "rows" "[LDrillVault$Copy;", .fieldLink RX3 17 "DrillVault$Shelf" "daysRule" "I", .fieldLink RX3 21 "DrillVault$Shelf" "weeksRule" "I", .fieldLink RX3 24 "DrillVault$Shelf" "monthsRule" "I", .methodLink RX3 41 yX3_promiseLatest, .instanceMethod yX3_promiseLatest, .selects RX3 yX3_promiseLatest yX3_promiseLatest, .initialized RX3, .code yX3_promiseLatest cX3_promiseLatest 7 none, .methodLink RX3 48 yX0_periodOf, .instanceMethod yX0_periodOf, .selects RX0 yX0_periodOf yX0_periodOf, .initialized RX0, .code yX0_periodOf cX0_periodOf 2 (some .int), .fieldLink RX0 19 "DrillVault$Copy" "madeOn" "I", .methodLink RX3 45 yX0_markChainNeeded, .instanceMethod yX0_markChainNeeded, .selects RX0 yX0_markChainNeeded yX0_markChainNeeded, .code yX0_markChainNeeded cX0_markChainNeeded 2 none, .fieldLink RX0 39 "DrillVault$Copy" "needed" "Z", .fieldLink RX0 22 "DrillVault$Copy" "base" "LDrillVault$Copy;"] ++ wsX30 ++ wsX00)
def wsX3_countPromised_r1 : List Cond := [Cond.fieldLink RX3 11 "DrillVault$Shelf" "rows" "[LDrillVault$Copy;", Cond.methodLink RX3 52 yX3_markGenerations, Cond.instanceMethod yX3_markGenerations, Cond.selects RX3 yX3_markGenerations yX3_markGenerations, Cond.initialized RX3, Cond.code yX3_markGenerations cX3_markGenerations 5 none, Cond.fieldLink RX3 17 "DrillVault$Shelf" "daysRule" "I", Cond.fieldLink RX3 21 "DrillVault$Shelf" "weeksRule" "I", Cond.fieldLink RX3 24 "DrillVault$Shelf" "monthsRule" "I", Cond.methodLink RX3 41 yX3_promiseLatest, Cond.instanceMethod yX3_promiseLatest, Cond.selects RX3 yX3_promiseLatest yX3_promiseLatest, Cond.code yX3_promiseLatest cX3_promiseLatest 7 none, Cond.methodLink RX3 48 yX0_periodOf, Cond.instanceMethod yX0_periodOf, Cond.selects RX0 yX0_periodOf yX0_periodOf, Cond.initialized RX0, Cond.code yX0_periodOf cX0_periodOf 2 (some .int), Cond.fieldLink RX0 19 "DrillVault$Copy" "madeOn" "I", Cond.methodLink RX3 45 yX0_markChainNeeded, Cond.instanceMethod yX0_markChainNeeded, Cond.selects RX0 yX0_markChainNeeded yX0_markChainNeeded, Cond.code yX0_markChainNeeded cX0_markChainNeeded 2 none, Cond.fieldLink RX0 39 "DrillVault$Copy" "needed" "Z"]
def wsX3_countPromised_r2 : List Cond := [Cond.fieldLink RX0 22 "DrillVault$Copy" "base" "LDrillVault$Copy;"]
def wsX3_countPromised : List Cond := .code yX3_countPromised cX3_countPromised 6 (some .int) :: ((wsX3_countPromised_r1 ++ wsX3_countPromised_r2) ++ wsX30 ++ wsX00)
def wsX3_countPromisedButDamaged_r1 : List Cond := [Cond.fieldLink RX3 11 "DrillVault$Shelf" "rows" "[LDrillVault$Copy;", Cond.methodLink RX3 52 yX3_markGenerations, Cond.instanceMethod yX3_markGenerations, Cond.selects RX3 yX3_markGenerations yX3_markGenerations, Cond.initialized RX3, Cond.code yX3_markGenerations cX3_markGenerations 5 none, Cond.fieldLink RX3 17 "DrillVault$Shelf" "daysRule" "I", Cond.fieldLink RX3 21 "DrillVault$Shelf" "weeksRule" "I", Cond.fieldLink RX3 24 "DrillVault$Shelf" "monthsRule" "I", Cond.methodLink RX3 41 yX3_promiseLatest, Cond.instanceMethod yX3_promiseLatest, Cond.selects RX3 yX3_promiseLatest yX3_promiseLatest, Cond.code yX3_promiseLatest cX3_promiseLatest 7 none, Cond.methodLink RX3 48 yX0_periodOf, Cond.instanceMethod yX0_periodOf, Cond.selects RX0 yX0_periodOf yX0_periodOf, Cond.initialized RX0, Cond.code yX0_periodOf cX0_periodOf 2 (some .int), Cond.fieldLink RX0 19 "DrillVault$Copy" "madeOn" "I", Cond.methodLink RX3 45 yX0_markChainNeeded, Cond.instanceMethod yX0_markChainNeeded, Cond.selects RX0 yX0_markChainNeeded yX0_markChainNeeded, Cond.code yX0_markChainNeeded cX0_markChainNeeded 2 none, Cond.fieldLink RX0 39 "DrillVault$Copy" "needed" "Z"]
def wsX3_countPromisedButDamaged_r2 : List Cond := [Cond.fieldLink RX0 22 "DrillVault$Copy" "base" "LDrillVault$Copy;", Cond.methodLink RX3 55 yX0_hasDamagedChain, Cond.instanceMethod yX0_hasDamagedChain, Cond.selects RX0 yX0_hasDamagedChain yX0_hasDamagedChain, Cond.code yX0_hasDamagedChain cX0_hasDamagedChain 2 (some .boolean), Cond.fieldLink RX0 32 "DrillVault$Copy" "damaged" "Z"]
def wsX3_countPromisedButDamaged : List Cond := .code yX3_countPromisedButDamaged cX3_countPromisedButDamaged 6 (some .int) :: ((wsX3_countPromisedButDamaged_r1 ++ wsX3_countPromisedButDamaged_r2) ++ wsX30 ++ wsX00)
def wsX3_latestProvedDay : List Cond := .code yX3_latestProvedDay cX3_latestProvedDay 6 (some .int) :: ([.fieldLink RX3 11 "DrillVault$Shelf" "rows" "[LDrillVault$Copy;", .methodLink RX3 75 Lib.Math.max.name, .static Lib.Math.max.name, .initialized "java/lang/Math", .code Lib.Math.max.name Lib.Math.max.code 2 (some .int)] ++ wsX30 ++ wsX00)
def wsX3_markHeld : List Cond := .code yX3_markHeld cX3_markHeld 6 none :: ([.fieldLink RX3 11 "DrillVault$Shelf" "rows" "[LDrillVault$Copy;"] ++ wsX30 ++ wsX00)
def wsX3_takeOffLoose_r1 : List Cond := [Cond.fieldLink RX3 11 "DrillVault$Shelf" "rows" "[LDrillVault$Copy;", Cond.methodLink RX3 52 yX3_markGenerations, Cond.instanceMethod yX3_markGenerations, Cond.selects RX3 yX3_markGenerations yX3_markGenerations, Cond.initialized RX3, Cond.code yX3_markGenerations cX3_markGenerations 5 none, Cond.fieldLink RX3 17 "DrillVault$Shelf" "daysRule" "I", Cond.fieldLink RX3 21 "DrillVault$Shelf" "weeksRule" "I", Cond.fieldLink RX3 24 "DrillVault$Shelf" "monthsRule" "I", Cond.methodLink RX3 41 yX3_promiseLatest, Cond.instanceMethod yX3_promiseLatest, Cond.selects RX3 yX3_promiseLatest yX3_promiseLatest, Cond.code yX3_promiseLatest cX3_promiseLatest 7 none, Cond.methodLink RX3 48 yX0_periodOf, Cond.instanceMethod yX0_periodOf, Cond.selects RX0 yX0_periodOf yX0_periodOf, Cond.initialized RX0, Cond.code yX0_periodOf cX0_periodOf 2 (some .int), Cond.fieldLink RX0 19 "DrillVault$Copy" "madeOn" "I", Cond.methodLink RX3 45 yX0_markChainNeeded, Cond.instanceMethod yX0_markChainNeeded, Cond.selects RX0 yX0_markChainNeeded yX0_markChainNeeded, Cond.code yX0_markChainNeeded cX0_markChainNeeded 2 none, Cond.fieldLink RX0 39 "DrillVault$Copy" "needed" "Z"]
def wsX3_takeOffLoose_r2 : List Cond := [Cond.fieldLink RX0 22 "DrillVault$Copy" "base" "LDrillVault$Copy;", Cond.methodLink RX3 59 yX3_latestProvedDay, Cond.instanceMethod yX3_latestProvedDay, Cond.selects RX3 yX3_latestProvedDay yX3_latestProvedDay, Cond.code yX3_latestProvedDay cX3_latestProvedDay 6 (some .int), Cond.methodLink RX3 75 Lib.Math.max.name, Cond.static Lib.Math.max.name, Cond.initialized "java/lang/Math", Cond.code Lib.Math.max.name Lib.Math.max.code 2 (some .int), Cond.methodLink RX3 62 yX3_markHeld, Cond.instanceMethod yX3_markHeld, Cond.selects RX3 yX3_markHeld yX3_markHeld, Cond.code yX3_markHeld cX3_markHeld 6 none, Cond.methodLink RX3 30 yX0_spaceTaken, Cond.instanceMethod yX0_spaceTaken, Cond.selects RX0 yX0_spaceTaken yX0_spaceTaken, Cond.code yX0_spaceTaken cX0_spaceTaken 1 (some .int), Cond.fieldLink RX0 29 "DrillVault$Copy" "keptContents" "I"]
def wsX3_takeOffLoose : List Cond := .code yX3_takeOffLoose cX3_takeOffLoose 4 (some .int) :: ((wsX3_takeOffLoose_r1 ++ wsX3_takeOffLoose_r2) ++ wsX30 ++ wsX00)
def wsX4_init_r1 : List Cond := [Cond.methodLink RX4 1 objectInit, Cond.instanceMethod objectInit, Cond.code objectInit ⟨#[0xb1]⟩ 1 none, Cond.classLink RX4 7 RX1, Cond.instantiable RX1 4, Cond.initialized RX1, Cond.fieldLink RX4 10 "DrillVault" "files" "LDrillVault$Files;", Cond.classLink RX4 16 RX3, Cond.instantiable RX3 5, Cond.initialized RX3, Cond.fieldLink RX4 19 "DrillVault" "shelf" "LDrillVault$Shelf;", Cond.classLink RX4 23 RX2, Cond.instantiable RX2 1, Cond.initialized RX2, Cond.fieldLink RX4 26 "DrillVault" "rota" "LDrillVault$Rota;", Cond.fieldLink RX4 30 "DrillVault" "today" "I", Cond.instanceMethod yX1_init, Cond.code yX1_init cX1_init 1 none, Cond.methodLink RX1 3 objectInit, Cond.arrayClass .int, Cond.fieldLink RX1 9 "DrillVault$Files" "contents" "[I", Cond.fieldLink RX1 15 "DrillVault$Files" "changedFiles" "[I", Cond.fieldLink RX1 18 "DrillVault$Files" "changedTo" "[I", Cond.instanceMethod yX3_init]
def wsX4_init_r2 : List Cond := [Cond.code yX3_init cX3_init 1 none, Cond.methodLink RX3 3 objectInit, Cond.classLink RX3 9 RX0, Cond.fieldLink RX3 11 "DrillVault$Shelf" "rows" "[LDrillVault$Copy;", Cond.fieldLink RX3 17 "DrillVault$Shelf" "daysRule" "I", Cond.fieldLink RX3 21 "DrillVault$Shelf" "weeksRule" "I", Cond.fieldLink RX3 24 "DrillVault$Shelf" "monthsRule" "I", Cond.methodLink RX4 25 yX2_init, Cond.instanceMethod yX2_init, Cond.code yX2_init cX2_init 2 none, Cond.methodLink RX2 3 objectInit, Cond.fieldLink RX2 9 "DrillVault$Rota" "persons" "[I"]
def wsX4_init : List Cond := .code yX4_init cX4_init 1 none :: ((wsX4_init_r1 ++ wsX4_init_r2) ++ wsX10 ++ wsX40 ++ wsX30 ++ wsX20)
def wsX4_requireFile : List Cond := .code yX4_requireFile cX4_requireFile 1 none :: ([.classLink RX4 197 "java/lang/IndexOutOfBoundsException", .initialized "java/lang/IndexOutOfBoundsException"] ++ (vx_atS RX4 201 "java/lang/IndexOutOfBoundsException" ["java/lang/RuntimeException", "java/lang/Exception"]).filter goodWord)
def wsX4_change : List Cond := .code yX4_change cX4_change 4 (some .int) :: ([.classLink RX4 38 "java/lang/IllegalArgumentException", .initialized "java/lang/IllegalArgumentException", .classLink RX4 48 "java/lang/IllegalStateException", .initialized "java/lang/IllegalStateException", .fieldLink RX4 10 "DrillVault" "files" "LDrillVault$Files;", .methodLink RX4 34 yX4_requireFile, .static yX4_requireFile, .initialized RX4, .code yX4_requireFile cX4_requireFile 1 none, .classLink RX4 197 "java/lang/IndexOutOfBoundsException", .initialized "java/lang/IndexOutOfBoundsException", .methodLink RX4 53 yX1_contentNow, .instanceMethod yX1_contentNow, .selects RX1 yX1_contentNow yX1_contentNow, .initialized RX1, .code yX1_contentNow cX1_contentNow 2 (some .int), .fieldLink RX1 9 "DrillVault$Files" "contents" "[I", .methodLink RX4 57 yX1_write, .instanceMethod yX1_write, .selects RX1 yX1_write yX1_write, .code yX1_write cX1_write 3 none, .fieldLink RX1 21 "DrillVault$Files" "changes" "I", .fieldLink RX1 15 "DrillVault$Files" "changedFiles" "[I", .fieldLink RX1 18 "DrillVault$Files" "changedTo" "[I"] ++ wsX40 ++ wsX10 ++ (vx_atS RX4 42 "java/lang/IllegalArgumentException" ["java/lang/RuntimeException", "java/lang/Exception"]).filter goodWord ++ (vx_atS RX4 52 "java/lang/IllegalStateException" ["java/lang/RuntimeException", "java/lang/Exception"]).filter goodWord ++ (vx_atS RX4 201 "java/lang/IndexOutOfBoundsException" ["java/lang/RuntimeException", "java/lang/Exception"]).filter goodWord)
def wsX4_pass : List Cond := .code yX4_pass cX4_pass 2 (some .int) :: ([.classLink RX4 38 "java/lang/IllegalArgumentException", .initialized "java/lang/IllegalArgumentException", .classLink RX4 48 "java/lang/IllegalStateException", .initialized "java/lang/IllegalStateException", .fieldLink RX4 30 "DrillVault" "today" "I"] ++ wsX40 ++ (vx_atS RX4 42 "java/lang/IllegalArgumentException" ["java/lang/RuntimeException", "java/lang/Exception"]).filter goodWord ++ (vx_atS RX4 52 "java/lang/IllegalStateException" ["java/lang/RuntimeException", "java/lang/Exception"]).filter goodWord)
def wsX4_full_r1 : List Cond := [Cond.classLink RX4 48 "java/lang/IllegalStateException", Cond.initialized "java/lang/IllegalStateException", Cond.fieldLink RX4 19 "DrillVault" "shelf" "LDrillVault$Shelf;", Cond.classLink RX4 70 RX0, Cond.instantiable RX0 11, Cond.initialized RX0, Cond.fieldLink RX4 30 "DrillVault" "today" "I", Cond.fieldLink RX4 10 "DrillVault" "files" "LDrillVault$Files;", Cond.methodLink RX4 72 yX0_init, Cond.instanceMethod yX0_init, Cond.code yX0_init cX0_init 6 none, Cond.methodLink RX0 3 objectInit, Cond.instanceMethod objectInit, Cond.code objectInit ⟨#[0xb1]⟩ 1 none, Cond.arrayClass .int, Cond.fieldLink RX0 9 "DrillVault$Copy" "kept" "[I", Cond.fieldLink RX0 15 "DrillVault$Copy" "number" "I", Cond.fieldLink RX0 19 "DrillVault$Copy" "madeOn" "I", Cond.fieldLink RX0 22 "DrillVault$Copy" "base" "LDrillVault$Copy;", Cond.fieldLink RX0 26 "DrillVault$Copy" "changesAhead" "I", Cond.methodLink RX4 75 yX1_keepAll, Cond.instanceMethod yX1_keepAll, Cond.selects RX1 yX1_keepAll yX1_keepAll, Cond.initialized RX1]
def wsX4_full_r2 : List Cond := [Cond.code yX1_keepAll cX1_keepAll 3 none, Cond.fieldLink RX1 9 "DrillVault$Files" "contents" "[I", Cond.methodLink RX1 25 yX0_keep, Cond.instanceMethod yX0_keep, Cond.selects RX0 yX0_keep yX0_keep, Cond.code yX0_keep cX0_keep 3 none, Cond.fieldLink RX0 29 "DrillVault$Copy" "keptContents" "I", Cond.methodLink RX4 79 yX3_put, Cond.instanceMethod yX3_put, Cond.selects RX3 yX3_put yX3_put, Cond.initialized RX3, Cond.code yX3_put cX3_put 2 none, Cond.fieldLink RX3 27 "DrillVault$Shelf" "made" "I", Cond.fieldLink RX3 11 "DrillVault$Shelf" "rows" "[LDrillVault$Copy;"]
def wsX4_full : List Cond := .code yX4_full cX4_full 2 (some .int) :: ((wsX4_full_r1 ++ wsX4_full_r2) ++ wsX40 ++ wsX30 ++ wsX00 ++ wsX10 ++ (vx_atS RX4 52 "java/lang/IllegalStateException" ["java/lang/RuntimeException", "java/lang/Exception"]).filter goodWord)
def wsX4_increment_r1 : List Cond := [Cond.classLink RX4 48 "java/lang/IllegalStateException", Cond.initialized "java/lang/IllegalStateException", Cond.fieldLink RX4 19 "DrillVault" "shelf" "LDrillVault$Shelf;", Cond.classLink RX4 70 RX0, Cond.instantiable RX0 11, Cond.initialized RX0, Cond.fieldLink RX4 30 "DrillVault" "today" "I", Cond.fieldLink RX4 10 "DrillVault" "files" "LDrillVault$Files;", Cond.methodLink RX4 85 yX3_latest, Cond.instanceMethod yX3_latest, Cond.selects RX3 yX3_latest yX3_latest, Cond.initialized RX3, Cond.code yX3_latest cX3_latest 2 (some (.object "DrillVault$Copy")), Cond.fieldLink RX3 11 "DrillVault$Shelf" "rows" "[LDrillVault$Copy;", Cond.methodLink RX4 72 yX0_init, Cond.instanceMethod yX0_init, Cond.code yX0_init cX0_init 6 none, Cond.methodLink RX0 3 objectInit, Cond.instanceMethod objectInit, Cond.code objectInit ⟨#[0xb1]⟩ 1 none, Cond.arrayClass .int, Cond.fieldLink RX0 9 "DrillVault$Copy" "kept" "[I", Cond.fieldLink RX0 15 "DrillVault$Copy" "number" "I", Cond.fieldLink RX0 19 "DrillVault$Copy" "madeOn" "I"]
def wsX4_increment_r2 : List Cond := [Cond.fieldLink RX0 22 "DrillVault$Copy" "base" "LDrillVault$Copy;", Cond.fieldLink RX0 26 "DrillVault$Copy" "changesAhead" "I", Cond.methodLink RX4 94 yX1_keepChanged, Cond.instanceMethod yX1_keepChanged, Cond.selects RX1 yX1_keepChanged yX1_keepChanged, Cond.initialized RX1, Cond.code yX1_keepChanged cX1_keepChanged 4 none, Cond.methodLink RX1 31 Lib.Math.max.name, Cond.static Lib.Math.max.name, Cond.initialized "java/lang/Math", Cond.code Lib.Math.max.name Lib.Math.max.code 2 (some .int), Cond.fieldLink RX1 21 "DrillVault$Files" "changes" "I", Cond.fieldLink RX1 15 "DrillVault$Files" "changedFiles" "[I", Cond.methodLink RX1 37 yX1_contentNow, Cond.instanceMethod yX1_contentNow, Cond.selects RX1 yX1_contentNow yX1_contentNow, Cond.code yX1_contentNow cX1_contentNow 2 (some .int), Cond.fieldLink RX1 9 "DrillVault$Files" "contents" "[I", Cond.methodLink RX1 25 yX0_keep, Cond.instanceMethod yX0_keep, Cond.selects RX0 yX0_keep yX0_keep, Cond.code yX0_keep cX0_keep 3 none, Cond.fieldLink RX0 29 "DrillVault$Copy" "keptContents" "I", Cond.methodLink RX4 79 yX3_put]
def wsX4_increment_r3 : List Cond := [Cond.instanceMethod yX3_put, Cond.selects RX3 yX3_put yX3_put, Cond.code yX3_put cX3_put 2 none, Cond.fieldLink RX3 27 "DrillVault$Shelf" "made" "I"]
def wsX4_increment : List Cond := .code yX4_increment cX4_increment 3 (some .int) :: ((wsX4_increment_r1 ++ (wsX4_increment_r2 ++ wsX4_increment_r3)) ++ wsX40 ++ wsX30 ++ wsX00 ++ wsX10 ++ (vx_atS RX4 52 "java/lang/IllegalStateException" ["java/lang/RuntimeException", "java/lang/Exception"]).filter goodWord)
def wsX4_requireCopy : List Cond := .code yX4_requireCopy cX4_requireCopy 3 (some (.object "DrillVault$Copy")) :: ([.classLink RX4 197 "java/lang/IndexOutOfBoundsException", .initialized "java/lang/IndexOutOfBoundsException", .fieldLink RX4 19 "DrillVault" "shelf" "LDrillVault$Shelf;", .methodLink RX4 202 yX3_find, .instanceMethod yX3_find, .selects RX3 yX3_find yX3_find, .initialized RX3, .code yX3_find cX3_find 2 (some (.object "DrillVault$Copy")), .fieldLink RX3 11 "DrillVault$Shelf" "rows" "[LDrillVault$Copy;"] ++ wsX40 ++ wsX30 ++ (vx_atS RX4 201 "java/lang/IndexOutOfBoundsException" ["java/lang/RuntimeException", "java/lang/Exception"]).filter goodWord)
def wsX4_damage_r1 : List Cond := [Cond.fieldLink RX4 19 "DrillVault" "shelf" "LDrillVault$Shelf;", Cond.methodLink RX4 98 yX4_requireCopy, Cond.instanceMethod yX4_requireCopy, Cond.selects RX4 yX4_requireCopy yX4_requireCopy, Cond.initialized RX4, Cond.code yX4_requireCopy cX4_requireCopy 3 (some (.object "DrillVault$Copy")), Cond.classLink RX4 197 "java/lang/IndexOutOfBoundsException", Cond.initialized "java/lang/IndexOutOfBoundsException", Cond.methodLink RX4 202 yX3_find, Cond.instanceMethod yX3_find, Cond.selects RX3 yX3_find yX3_find, Cond.initialized RX3, Cond.code yX3_find cX3_find 2 (some (.object "DrillVault$Copy")), Cond.fieldLink RX3 11 "DrillVault$Shelf" "rows" "[LDrillVault$Copy;", Cond.methodLink RX4 109 yX3_countPromisedButDamaged, Cond.instanceMethod yX3_countPromisedButDamaged, Cond.selects RX3 yX3_countPromisedButDamaged yX3_countPromisedButDamaged, Cond.code yX3_countPromisedButDamaged cX3_countPromisedButDamaged 6 (some .int), Cond.methodLink RX3 52 yX3_markGenerations, Cond.instanceMethod yX3_markGenerations, Cond.selects RX3 yX3_markGenerations yX3_markGenerations, Cond.code yX3_markGenerations cX3_markGenerations 5 none, Cond.fieldLink RX3 17 "DrillVault$Shelf" "daysRule" "I", Cond.fieldLink RX3 21 "DrillVault$Shelf" "weeksRule" "I"]
def wsX4_damage_r2 : List Cond := [Cond.fieldLink RX3 24 "DrillVault$Shelf" "monthsRule" "I", Cond.methodLink RX3 41 yX3_promiseLatest, Cond.instanceMethod yX3_promiseLatest, Cond.selects RX3 yX3_promiseLatest yX3_promiseLatest, Cond.code yX3_promiseLatest cX3_promiseLatest 7 none, Cond.methodLink RX3 48 yX0_periodOf, Cond.instanceMethod yX0_periodOf, Cond.selects RX0 yX0_periodOf yX0_periodOf, Cond.initialized RX0, Cond.code yX0_periodOf cX0_periodOf 2 (some .int), Cond.fieldLink RX0 19 "DrillVault$Copy" "madeOn" "I", Cond.methodLink RX3 45 yX0_markChainNeeded, Cond.instanceMethod yX0_markChainNeeded, Cond.selects RX0 yX0_markChainNeeded yX0_markChainNeeded, Cond.code yX0_markChainNeeded cX0_markChainNeeded 2 none, Cond.fieldLink RX0 39 "DrillVault$Copy" "needed" "Z", Cond.fieldLink RX0 22 "DrillVault$Copy" "base" "LDrillVault$Copy;", Cond.methodLink RX3 55 yX0_hasDamagedChain, Cond.instanceMethod yX0_hasDamagedChain, Cond.selects RX0 yX0_hasDamagedChain yX0_hasDamagedChain, Cond.code yX0_hasDamagedChain cX0_hasDamagedChain 2 (some .boolean), Cond.fieldLink RX0 32 "DrillVault$Copy" "damaged" "Z"]
def wsX4_damage : List Cond := .code yX4_damage cX4_damage 3 (some .int) :: ((wsX4_damage_r1 ++ wsX4_damage_r2) ++ wsX00 ++ wsX40 ++ wsX30 ++ (vx_atS RX4 201 "java/lang/IndexOutOfBoundsException" ["java/lang/RuntimeException", "java/lang/Exception"]).filter goodWord)
def wsX4_drill_r1 : List Cond := [Cond.methodLink RX4 98 yX4_requireCopy, Cond.instanceMethod yX4_requireCopy, Cond.selects RX4 yX4_requireCopy yX4_requireCopy, Cond.initialized RX4, Cond.code yX4_requireCopy cX4_requireCopy 3 (some (.object "DrillVault$Copy")), Cond.classLink RX4 197 "java/lang/IndexOutOfBoundsException", Cond.initialized "java/lang/IndexOutOfBoundsException", Cond.fieldLink RX4 19 "DrillVault" "shelf" "LDrillVault$Shelf;", Cond.methodLink RX4 202 yX3_find, Cond.instanceMethod yX3_find, Cond.selects RX3 yX3_find yX3_find, Cond.initialized RX3, Cond.code yX3_find cX3_find 2 (some (.object "DrillVault$Copy")), Cond.fieldLink RX3 11 "DrillVault$Shelf" "rows" "[LDrillVault$Copy;", Cond.methodLink RX4 113 yX0_hasDamagedChain, Cond.instanceMethod yX0_hasDamagedChain, Cond.selects RX0 yX0_hasDamagedChain yX0_hasDamagedChain, Cond.initialized RX0, Cond.code yX0_hasDamagedChain cX0_hasDamagedChain 2 (some .boolean), Cond.fieldLink RX0 32 "DrillVault$Copy" "damaged" "Z", Cond.fieldLink RX0 22 "DrillVault$Copy" "base" "LDrillVault$Copy;", Cond.methodLink RX4 117 yX0_proveChain, Cond.instanceMethod yX0_proveChain, Cond.selects RX0 yX0_proveChain yX0_proveChain]
def wsX4_drill_r2 : List Cond := [Cond.code yX0_proveChain cX0_proveChain 3 none, Cond.fieldLink RX0 36 "DrillVault$Copy" "proved" "Z", Cond.methodLink RX4 121 yX0_chainLength, Cond.instanceMethod yX0_chainLength, Cond.selects RX0 yX0_chainLength yX0_chainLength, Cond.code yX0_chainLength cX0_chainLength 3 (some .int)]
def wsX4_drill : List Cond := .code yX4_drill cX4_drill 4 (some .int) :: ((wsX4_drill_r1 ++ wsX4_drill_r2) ++ wsX40 ++ wsX30 ++ wsX00 ++ (vx_atS RX4 201 "java/lang/IndexOutOfBoundsException" ["java/lang/RuntimeException", "java/lang/Exception"]).filter goodWord)
def wsX4_setRules_r1 : List Cond := [Cond.classLink RX4 38 "java/lang/IllegalArgumentException", Cond.initialized "java/lang/IllegalArgumentException", Cond.fieldLink RX4 19 "DrillVault" "shelf" "LDrillVault$Shelf;", Cond.methodLink RX4 137 yX3_countPromised, Cond.instanceMethod yX3_countPromised, Cond.selects RX3 yX3_countPromised yX3_countPromised, Cond.initialized RX3, Cond.code yX3_countPromised cX3_countPromised 6 (some .int), Cond.fieldLink RX3 11 "DrillVault$Shelf" "rows" "[LDrillVault$Copy;", Cond.methodLink RX3 52 yX3_markGenerations, Cond.instanceMethod yX3_markGenerations, Cond.selects RX3 yX3_markGenerations yX3_markGenerations, Cond.code yX3_markGenerations cX3_markGenerations 5 none, Cond.fieldLink RX3 17 "DrillVault$Shelf" "daysRule" "I", Cond.fieldLink RX3 21 "DrillVault$Shelf" "weeksRule" "I", Cond.fieldLink RX3 24 "DrillVault$Shelf" "monthsRule" "I", Cond.methodLink RX3 41 yX3_promiseLatest, Cond.instanceMethod yX3_promiseLatest, Cond.selects RX3 yX3_promiseLatest yX3_promiseLatest, Cond.code yX3_promiseLatest cX3_promiseLatest 7 none, Cond.methodLink RX3 48 yX0_periodOf, Cond.instanceMethod yX0_periodOf, Cond.selects RX0 yX0_periodOf yX0_periodOf, Cond.initialized RX0]
def wsX4_setRules_r2 : List Cond := [Cond.code yX0_periodOf cX0_periodOf 2 (some .int), Cond.fieldLink RX0 19 "DrillVault$Copy" "madeOn" "I", Cond.methodLink RX3 45 yX0_markChainNeeded, Cond.instanceMethod yX0_markChainNeeded, Cond.selects RX0 yX0_markChainNeeded yX0_markChainNeeded, Cond.code yX0_markChainNeeded cX0_markChainNeeded 2 none, Cond.fieldLink RX0 39 "DrillVault$Copy" "needed" "Z", Cond.fieldLink RX0 22 "DrillVault$Copy" "base" "LDrillVault$Copy;"]
def wsX4_setRules : List Cond := .code yX4_setRules cX4_setRules 4 (some .int) :: ((wsX4_setRules_r1 ++ wsX4_setRules_r2) ++ wsX40 ++ wsX30 ++ wsX00 ++ (vx_atS RX4 42 "java/lang/IllegalArgumentException" ["java/lang/RuntimeException", "java/lang/Exception"]).filter goodWord)
def wsX4_thin_r1 : List Cond := [Cond.fieldLink RX4 19 "DrillVault" "shelf" "LDrillVault$Shelf;", Cond.methodLink RX4 140 yX3_takeOffLoose, Cond.instanceMethod yX3_takeOffLoose, Cond.selects RX3 yX3_takeOffLoose yX3_takeOffLoose, Cond.initialized RX3, Cond.code yX3_takeOffLoose cX3_takeOffLoose 4 (some .int), Cond.fieldLink RX3 11 "DrillVault$Shelf" "rows" "[LDrillVault$Copy;", Cond.methodLink RX3 52 yX3_markGenerations, Cond.instanceMethod yX3_markGenerations, Cond.selects RX3 yX3_markGenerations yX3_markGenerations, Cond.code yX3_markGenerations cX3_markGenerations 5 none, Cond.fieldLink RX3 17 "DrillVault$Shelf" "daysRule" "I", Cond.fieldLink RX3 21 "DrillVault$Shelf" "weeksRule" "I", Cond.fieldLink RX3 24 "DrillVault$Shelf" "monthsRule" "I", Cond.methodLink RX3 41 yX3_promiseLatest, Cond.instanceMethod yX3_promiseLatest, Cond.selects RX3 yX3_promiseLatest yX3_promiseLatest, Cond.code yX3_promiseLatest cX3_promiseLatest 7 none, Cond.methodLink RX3 48 yX0_periodOf, Cond.instanceMethod yX0_periodOf, Cond.selects RX0 yX0_periodOf yX0_periodOf, Cond.initialized RX0, Cond.code yX0_periodOf cX0_periodOf 2 (some .int), Cond.fieldLink RX0 19 "DrillVault$Copy" "madeOn" "I"]
def wsX4_thin_r2 : List Cond := [Cond.methodLink RX3 45 yX0_markChainNeeded, Cond.instanceMethod yX0_markChainNeeded, Cond.selects RX0 yX0_markChainNeeded yX0_markChainNeeded, Cond.code yX0_markChainNeeded cX0_markChainNeeded 2 none, Cond.fieldLink RX0 39 "DrillVault$Copy" "needed" "Z", Cond.fieldLink RX0 22 "DrillVault$Copy" "base" "LDrillVault$Copy;", Cond.methodLink RX3 59 yX3_latestProvedDay, Cond.instanceMethod yX3_latestProvedDay, Cond.selects RX3 yX3_latestProvedDay yX3_latestProvedDay, Cond.code yX3_latestProvedDay cX3_latestProvedDay 6 (some .int), Cond.methodLink RX3 75 Lib.Math.max.name, Cond.static Lib.Math.max.name, Cond.initialized "java/lang/Math", Cond.code Lib.Math.max.name Lib.Math.max.code 2 (some .int), Cond.methodLink RX3 62 yX3_markHeld, Cond.instanceMethod yX3_markHeld, Cond.selects RX3 yX3_markHeld yX3_markHeld, Cond.code yX3_markHeld cX3_markHeld 6 none, Cond.methodLink RX3 30 yX0_spaceTaken, Cond.instanceMethod yX0_spaceTaken, Cond.selects RX0 yX0_spaceTaken yX0_spaceTaken, Cond.code yX0_spaceTaken cX0_spaceTaken 1 (some .int), Cond.fieldLink RX0 29 "DrillVault$Copy" "keptContents" "I"]
def wsX4_thin : List Cond := .code yX4_thin cX4_thin 1 (some .int) :: ((wsX4_thin_r1 ++ wsX4_thin_r2) ++ wsX40 ++ wsX30 ++ wsX00)
def wsX4_day : List Cond := .code yX4_day cX4_day 1 (some .int) :: ([.fieldLink RX4 30 "DrillVault" "today" "I"] ++ wsX40)
def wsX4_copies : List Cond := .code yX4_copies cX4_copies 1 (some .int) :: ([.fieldLink RX4 19 "DrillVault" "shelf" "LDrillVault$Shelf;", .methodLink RX4 143 yX3_countThere, .instanceMethod yX3_countThere, .selects RX3 yX3_countThere yX3_countThere, .initialized RX3, .code yX3_countThere cX3_countThere 6 (some .int), .fieldLink RX3 11 "DrillVault$Shelf" "rows" "[LDrillVault$Copy;"] ++ wsX40 ++ wsX30)
def wsX4_space : List Cond := .code yX4_space cX4_space 1 (some .int) :: ([.fieldLink RX4 19 "DrillVault" "shelf" "LDrillVault$Shelf;", .methodLink RX4 146 yX3_spaceTaken, .instanceMethod yX3_spaceTaken, .selects RX3 yX3_spaceTaken yX3_spaceTaken, .initialized RX3, .code yX3_spaceTaken cX3_spaceTaken 6 (some .int), .fieldLink RX3 11 "DrillVault$Shelf" "rows" "[LDrillVault$Copy;", .methodLink RX3 30 yX0_spaceTaken, .instanceMethod yX0_spaceTaken, .selects RX0 yX0_spaceTaken yX0_spaceTaken, .initialized RX0, .code yX0_spaceTaken cX0_spaceTaken 1 (some .int), .fieldLink RX0 29 "DrillVault$Copy" "keptContents" "I"] ++ wsX40 ++ wsX30 ++ wsX00)
def wsX4_dayOf : List Cond := .code yX4_dayOf cX4_dayOf 2 (some .int) :: ([.methodLink RX4 98 yX4_requireCopy, .instanceMethod yX4_requireCopy, .selects RX4 yX4_requireCopy yX4_requireCopy, .initialized RX4, .code yX4_requireCopy cX4_requireCopy 3 (some (.object "DrillVault$Copy")), .classLink RX4 197 "java/lang/IndexOutOfBoundsException", .initialized "java/lang/IndexOutOfBoundsException", .fieldLink RX4 19 "DrillVault" "shelf" "LDrillVault$Shelf;", .methodLink RX4 202 yX3_find, .instanceMethod yX3_find, .selects RX3 yX3_find yX3_find, .initialized RX3, .code yX3_find cX3_find 2 (some (.object "DrillVault$Copy")), .fieldLink RX3 11 "DrillVault$Shelf" "rows" "[LDrillVault$Copy;"] ++ wsX00 ++ wsX40 ++ wsX30 ++ (vx_atS RX4 201 "java/lang/IndexOutOfBoundsException" ["java/lang/RuntimeException", "java/lang/Exception"]).filter goodWord)
def wsX4_baseOf : List Cond := .code yX4_baseOf cX4_baseOf 3 (some .int) :: ([.methodLink RX4 98 yX4_requireCopy, .instanceMethod yX4_requireCopy, .selects RX4 yX4_requireCopy yX4_requireCopy, .initialized RX4, .code yX4_requireCopy cX4_requireCopy 3 (some (.object "DrillVault$Copy")), .classLink RX4 197 "java/lang/IndexOutOfBoundsException", .initialized "java/lang/IndexOutOfBoundsException", .fieldLink RX4 19 "DrillVault" "shelf" "LDrillVault$Shelf;", .methodLink RX4 202 yX3_find, .instanceMethod yX3_find, .selects RX3 yX3_find yX3_find, .initialized RX3, .code yX3_find cX3_find 2 (some (.object "DrillVault$Copy")), .fieldLink RX3 11 "DrillVault$Shelf" "rows" "[LDrillVault$Copy;"] ++ wsX00 ++ wsX40 ++ wsX30 ++ (vx_atS RX4 201 "java/lang/IndexOutOfBoundsException" ["java/lang/RuntimeException", "java/lang/Exception"]).filter goodWord)
def wsX4_keeps : List Cond := .code yX4_keeps cX4_keeps 2 (some .int) :: ([.methodLink RX4 98 yX4_requireCopy, .instanceMethod yX4_requireCopy, .selects RX4 yX4_requireCopy yX4_requireCopy, .initialized RX4, .code yX4_requireCopy cX4_requireCopy 3 (some (.object "DrillVault$Copy")), .classLink RX4 197 "java/lang/IndexOutOfBoundsException", .initialized "java/lang/IndexOutOfBoundsException", .fieldLink RX4 19 "DrillVault" "shelf" "LDrillVault$Shelf;", .methodLink RX4 202 yX3_find, .instanceMethod yX3_find, .selects RX3 yX3_find yX3_find, .initialized RX3, .code yX3_find cX3_find 2 (some (.object "DrillVault$Copy")), .fieldLink RX3 11 "DrillVault$Shelf" "rows" "[LDrillVault$Copy;"] ++ wsX00 ++ wsX40 ++ wsX30 ++ (vx_atS RX4 201 "java/lang/IndexOutOfBoundsException" ["java/lang/RuntimeException", "java/lang/Exception"]).filter goodWord)
def wsX4_isPromised_r1 : List Cond := [Cond.fieldLink RX4 19 "DrillVault" "shelf" "LDrillVault$Shelf;", Cond.methodLink RX4 98 yX4_requireCopy, Cond.instanceMethod yX4_requireCopy, Cond.selects RX4 yX4_requireCopy yX4_requireCopy, Cond.initialized RX4, Cond.code yX4_requireCopy cX4_requireCopy 3 (some (.object "DrillVault$Copy")), Cond.classLink RX4 197 "java/lang/IndexOutOfBoundsException", Cond.initialized "java/lang/IndexOutOfBoundsException", Cond.methodLink RX4 202 yX3_find, Cond.instanceMethod yX3_find, Cond.selects RX3 yX3_find yX3_find, Cond.initialized RX3, Cond.code yX3_find cX3_find 2 (some (.object "DrillVault$Copy")), Cond.fieldLink RX3 11 "DrillVault$Shelf" "rows" "[LDrillVault$Copy;", Cond.methodLink RX4 159 yX3_markGenerations, Cond.instanceMethod yX3_markGenerations, Cond.selects RX3 yX3_markGenerations yX3_markGenerations, Cond.code yX3_markGenerations cX3_markGenerations 5 none, Cond.fieldLink RX3 17 "DrillVault$Shelf" "daysRule" "I", Cond.fieldLink RX3 21 "DrillVault$Shelf" "weeksRule" "I", Cond.fieldLink RX3 24 "DrillVault$Shelf" "monthsRule" "I", Cond.methodLink RX3 41 yX3_promiseLatest, Cond.instanceMethod yX3_promiseLatest, Cond.selects RX3 yX3_promiseLatest yX3_promiseLatest]
def wsX4_isPromised_r2 : List Cond := [Cond.code yX3_promiseLatest cX3_promiseLatest 7 none, Cond.methodLink RX3 48 yX0_periodOf, Cond.instanceMethod yX0_periodOf, Cond.selects RX0 yX0_periodOf yX0_periodOf, Cond.initialized RX0, Cond.code yX0_periodOf cX0_periodOf 2 (some .int), Cond.fieldLink RX0 19 "DrillVault$Copy" "madeOn" "I", Cond.methodLink RX3 45 yX0_markChainNeeded, Cond.instanceMethod yX0_markChainNeeded, Cond.selects RX0 yX0_markChainNeeded yX0_markChainNeeded, Cond.code yX0_markChainNeeded cX0_markChainNeeded 2 none, Cond.fieldLink RX0 39 "DrillVault$Copy" "needed" "Z", Cond.fieldLink RX0 22 "DrillVault$Copy" "base" "LDrillVault$Copy;"]
def wsX4_isPromised : List Cond := .code yX4_isPromised cX4_isPromised 3 (some .boolean) :: ((wsX4_isPromised_r1 ++ wsX4_isPromised_r2) ++ wsX40 ++ wsX00 ++ wsX30 ++ (vx_atS RX4 201 "java/lang/IndexOutOfBoundsException" ["java/lang/RuntimeException", "java/lang/Exception"]).filter goodWord)
def wsX4_isNeeded_r1 : List Cond := [Cond.fieldLink RX4 19 "DrillVault" "shelf" "LDrillVault$Shelf;", Cond.methodLink RX4 98 yX4_requireCopy, Cond.instanceMethod yX4_requireCopy, Cond.selects RX4 yX4_requireCopy yX4_requireCopy, Cond.initialized RX4, Cond.code yX4_requireCopy cX4_requireCopy 3 (some (.object "DrillVault$Copy")), Cond.classLink RX4 197 "java/lang/IndexOutOfBoundsException", Cond.initialized "java/lang/IndexOutOfBoundsException", Cond.methodLink RX4 202 yX3_find, Cond.instanceMethod yX3_find, Cond.selects RX3 yX3_find yX3_find, Cond.initialized RX3, Cond.code yX3_find cX3_find 2 (some (.object "DrillVault$Copy")), Cond.fieldLink RX3 11 "DrillVault$Shelf" "rows" "[LDrillVault$Copy;", Cond.methodLink RX4 159 yX3_markGenerations, Cond.instanceMethod yX3_markGenerations, Cond.selects RX3 yX3_markGenerations yX3_markGenerations, Cond.code yX3_markGenerations cX3_markGenerations 5 none, Cond.fieldLink RX3 17 "DrillVault$Shelf" "daysRule" "I", Cond.fieldLink RX3 21 "DrillVault$Shelf" "weeksRule" "I", Cond.fieldLink RX3 24 "DrillVault$Shelf" "monthsRule" "I", Cond.methodLink RX3 41 yX3_promiseLatest, Cond.instanceMethod yX3_promiseLatest, Cond.selects RX3 yX3_promiseLatest yX3_promiseLatest]
def wsX4_isNeeded_r2 : List Cond := [Cond.code yX3_promiseLatest cX3_promiseLatest 7 none, Cond.methodLink RX3 48 yX0_periodOf, Cond.instanceMethod yX0_periodOf, Cond.selects RX0 yX0_periodOf yX0_periodOf, Cond.initialized RX0, Cond.code yX0_periodOf cX0_periodOf 2 (some .int), Cond.fieldLink RX0 19 "DrillVault$Copy" "madeOn" "I", Cond.methodLink RX3 45 yX0_markChainNeeded, Cond.instanceMethod yX0_markChainNeeded, Cond.selects RX0 yX0_markChainNeeded yX0_markChainNeeded, Cond.code yX0_markChainNeeded cX0_markChainNeeded 2 none, Cond.fieldLink RX0 39 "DrillVault$Copy" "needed" "Z", Cond.fieldLink RX0 22 "DrillVault$Copy" "base" "LDrillVault$Copy;"]
def wsX4_isNeeded : List Cond := .code yX4_isNeeded cX4_isNeeded 3 (some .boolean) :: ((wsX4_isNeeded_r1 ++ wsX4_isNeeded_r2) ++ wsX40 ++ wsX00 ++ wsX30 ++ (vx_atS RX4 201 "java/lang/IndexOutOfBoundsException" ["java/lang/RuntimeException", "java/lang/Exception"]).filter goodWord)
def wsX4_isProved : List Cond := .code yX4_isProved cX4_isProved 2 (some .boolean) :: ([.methodLink RX4 98 yX4_requireCopy, .instanceMethod yX4_requireCopy, .selects RX4 yX4_requireCopy yX4_requireCopy, .initialized RX4, .code yX4_requireCopy cX4_requireCopy 3 (some (.object "DrillVault$Copy")), .classLink RX4 197 "java/lang/IndexOutOfBoundsException", .initialized "java/lang/IndexOutOfBoundsException", .fieldLink RX4 19 "DrillVault" "shelf" "LDrillVault$Shelf;", .methodLink RX4 202 yX3_find, .instanceMethod yX3_find, .selects RX3 yX3_find yX3_find, .initialized RX3, .code yX3_find cX3_find 2 (some (.object "DrillVault$Copy")), .fieldLink RX3 11 "DrillVault$Shelf" "rows" "[LDrillVault$Copy;"] ++ wsX00 ++ wsX40 ++ wsX30 ++ (vx_atS RX4 201 "java/lang/IndexOutOfBoundsException" ["java/lang/RuntimeException", "java/lang/Exception"]).filter goodWord)
def wsX4_restore : List Cond := .code yX4_restore cX4_restore 4 (some .int) :: ([.methodLink RX4 98 yX4_requireCopy, .instanceMethod yX4_requireCopy, .selects RX4 yX4_requireCopy yX4_requireCopy, .initialized RX4, .code yX4_requireCopy cX4_requireCopy 3 (some (.object "DrillVault$Copy")), .classLink RX4 197 "java/lang/IndexOutOfBoundsException", .initialized "java/lang/IndexOutOfBoundsException", .fieldLink RX4 19 "DrillVault" "shelf" "LDrillVault$Shelf;", .methodLink RX4 202 yX3_find, .instanceMethod yX3_find, .selects RX3 yX3_find yX3_find, .initialized RX3, .code yX3_find cX3_find 2 (some (.object "DrillVault$Copy")), .fieldLink RX3 11 "DrillVault$Shelf" "rows" "[LDrillVault$Copy;", .methodLink RX4 34 yX4_requireFile, .static yX4_requireFile, .code yX4_requireFile cX4_requireFile 1 none, .methodLink RX4 168 yX0_contentByChain, .instanceMethod yX0_contentByChain, .selects RX0 yX0_contentByChain yX0_contentByChain, .initialized RX0, .code yX0_contentByChain cX0_contentByChain 3 (some .int), .fieldLink RX0 9 "DrillVault$Copy" "kept" "[I", .fieldLink RX0 22 "DrillVault$Copy" "base" "LDrillVault$Copy;"] ++ wsX40 ++ wsX30 ++ wsX00 ++ (vx_atS RX4 201 "java/lang/IndexOutOfBoundsException" ["java/lang/RuntimeException", "java/lang/Exception"]).filter goodWord)
def wsX4_restoreByChanges_r1 : List Cond := [Cond.fieldLink RX4 10 "DrillVault" "files" "LDrillVault$Files;", Cond.methodLink RX4 98 yX4_requireCopy, Cond.instanceMethod yX4_requireCopy, Cond.selects RX4 yX4_requireCopy yX4_requireCopy, Cond.initialized RX4, Cond.code yX4_requireCopy cX4_requireCopy 3 (some (.object "DrillVault$Copy")), Cond.classLink RX4 197 "java/lang/IndexOutOfBoundsException", Cond.initialized "java/lang/IndexOutOfBoundsException", Cond.fieldLink RX4 19 "DrillVault" "shelf" "LDrillVault$Shelf;", Cond.methodLink RX4 202 yX3_find, Cond.instanceMethod yX3_find, Cond.selects RX3 yX3_find yX3_find, Cond.initialized RX3, Cond.code yX3_find cX3_find 2 (some (.object "DrillVault$Copy")), Cond.fieldLink RX3 11 "DrillVault$Shelf" "rows" "[LDrillVault$Copy;", Cond.methodLink RX4 34 yX4_requireFile, Cond.static yX4_requireFile, Cond.code yX4_requireFile cX4_requireFile 1 none, Cond.methodLink RX4 171 yX1_contentAfter, Cond.instanceMethod yX1_contentAfter, Cond.selects RX1 yX1_contentAfter yX1_contentAfter, Cond.initialized RX1, Cond.code yX1_contentAfter cX1_contentAfter 5 (some .int), Cond.fieldLink RX1 15 "DrillVault$Files" "changedFiles" "[I"]
def wsX4_restoreByChanges_r2 : List Cond := [Cond.fieldLink RX1 18 "DrillVault$Files" "changedTo" "[I"]
def wsX4_restoreByChanges : List Cond := .code yX4_restoreByChanges cX4_restoreByChanges 4 (some .int) :: ((wsX4_restoreByChanges_r1 ++ wsX4_restoreByChanges_r2) ++ wsX40 ++ wsX00 ++ wsX30 ++ wsX10 ++ (vx_atS RX4 201 "java/lang/IndexOutOfBoundsException" ["java/lang/RuntimeException", "java/lang/Exception"]).filter goodWord)
def wsX4_onCall : List Cond := .code yX4_onCall cX4_onCall 2 (some .int) :: ([.classLink RX4 38 "java/lang/IllegalArgumentException", .initialized "java/lang/IllegalArgumentException", .fieldLink RX4 26 "DrillVault" "rota" "LDrillVault$Rota;", .methodLink RX4 177 yX2_personOn, .instanceMethod yX2_personOn, .selects RX2 yX2_personOn yX2_personOn, .initialized RX2, .code yX2_personOn cX2_personOn 2 (some .int), .fieldLink RX2 9 "DrillVault$Rota" "persons" "[I"] ++ wsX40 ++ wsX20 ++ (vx_atS RX4 42 "java/lang/IllegalArgumentException" ["java/lang/RuntimeException", "java/lang/Exception"]).filter goodWord)
def wsX4_isOpenForSwaps : List Cond := .code yX4_isOpenForSwaps cX4_isOpenForSwaps 2 (some .boolean) :: ([.fieldLink RX4 30 "DrillVault" "today" "I"] ++ wsX40)
def wsX4_swap_r1 : List Cond := [Cond.classLink RX4 38 "java/lang/IllegalArgumentException", Cond.initialized "java/lang/IllegalArgumentException", Cond.classLink RX4 48 "java/lang/IllegalStateException", Cond.initialized "java/lang/IllegalStateException", Cond.fieldLink RX4 26 "DrillVault" "rota" "LDrillVault$Rota;", Cond.methodLink RX4 180 yX4_isOpenForSwaps, Cond.instanceMethod yX4_isOpenForSwaps, Cond.selects RX4 yX4_isOpenForSwaps yX4_isOpenForSwaps, Cond.initialized RX4, Cond.code yX4_isOpenForSwaps cX4_isOpenForSwaps 2 (some .boolean), Cond.fieldLink RX4 30 "DrillVault" "today" "I", Cond.methodLink RX4 186 yX2_exchangeIfRested, Cond.instanceMethod yX2_exchangeIfRested, Cond.selects RX2 yX2_exchangeIfRested yX2_exchangeIfRested, Cond.initialized RX2, Cond.code yX2_exchangeIfRested cX2_exchangeIfRested 3 (some .boolean), Cond.methodLink RX2 15 yX2_exchange, Cond.instanceMethod yX2_exchange, Cond.selects RX2 yX2_exchange yX2_exchange, Cond.code yX2_exchange cX2_exchange 4 none, Cond.fieldLink RX2 9 "DrillVault$Rota" "persons" "[I", Cond.methodLink RX2 19 yX2_isRestedAround, Cond.instanceMethod yX2_isRestedAround, Cond.selects RX2 yX2_isRestedAround yX2_isRestedAround]
def wsX4_swap_r2 : List Cond := [Cond.code yX2_isRestedAround cX2_isRestedAround 3 (some .boolean), Cond.methodLink RX2 23 yX2_personOn, Cond.instanceMethod yX2_personOn, Cond.selects RX2 yX2_personOn yX2_personOn, Cond.code yX2_personOn cX2_personOn 2 (some .int), Cond.methodLink RX4 177 yX2_personOn]
def wsX4_swap : List Cond := .code yX4_swap cX4_swap 3 (some .int) :: ((wsX4_swap_r1 ++ wsX4_swap_r2) ++ wsX40 ++ wsX20 ++ (vx_atS RX4 42 "java/lang/IllegalArgumentException" ["java/lang/RuntimeException", "java/lang/Exception"]).filter goodWord ++ (vx_atS RX4 52 "java/lang/IllegalStateException" ["java/lang/RuntimeException", "java/lang/Exception"]).filter goodWord)
def wsX4_alarm : List Cond := .code yX4_alarm cX4_alarm 2 (some .int) :: ([.classLink RX4 38 "java/lang/IllegalArgumentException", .initialized "java/lang/IllegalArgumentException", .fieldLink RX4 26 "DrillVault" "rota" "LDrillVault$Rota;", .fieldLink RX4 30 "DrillVault" "today" "I", .methodLink RX4 194 yX2_firstToAnswer, .instanceMethod yX2_firstToAnswer, .selects RX2 yX2_firstToAnswer yX2_firstToAnswer, .initialized RX2, .code yX2_firstToAnswer cX2_firstToAnswer 5 (some .int), .methodLink RX2 23 yX2_personOn, .instanceMethod yX2_personOn, .selects RX2 yX2_personOn yX2_personOn, .code yX2_personOn cX2_personOn 2 (some .int), .fieldLink RX2 9 "DrillVault$Rota" "persons" "[I"] ++ wsX40 ++ wsX20 ++ (vx_atS RX4 42 "java/lang/IllegalArgumentException" ["java/lang/RuntimeException", "java/lang/Exception"]).filter goodWord)
def wsX5_init : List Cond := .code yX5_init cX5_init 2 none :: ([.methodLink RX5 1 objectInit, .instanceMethod objectInit, .code objectInit ⟨#[0xb1]⟩ 1 none, .arrayClass .int, .fieldLink RX5 7 "DrillVaultModel" "contents" "[I", .fieldLink RX5 13 "DrillVaultModel" "changed" "[I", .fieldLink RX5 16 "DrillVaultModel" "days" "[I", .fieldLink RX5 19 "DrillVaultModel" "bases" "[I", .fieldLink RX5 22 "DrillVaultModel" "sizes" "[I", .fieldLink RX5 25 "DrillVaultModel" "madeAt" "[I", .fieldLink RX5 28 "DrillVaultModel" "kept" "[I", .arrayClass .boolean, .fieldLink RX5 31 "DrillVaultModel" "there" "[Z", .fieldLink RX5 35 "DrillVaultModel" "damaged" "[Z", .fieldLink RX5 38 "DrillVaultModel" "proved" "[Z", .fieldLink RX5 41 "DrillVaultModel" "dayRule" "I", .fieldLink RX5 45 "DrillVaultModel" "weekRule" "I", .fieldLink RX5 48 "DrillVaultModel" "monthRule" "I", .fieldLink RX5 51 "DrillVaultModel" "promised" "[Z", .fieldLink RX5 54 "DrillVaultModel" "needed" "[Z", .fieldLink RX5 57 "DrillVaultModel" "loose" "[Z", .fieldLink RX5 60 "DrillVaultModel" "rota" "[I"] ++ wsX50)
def wsX5_thrown : List Cond := .code yX5_thrown cX5_thrown 1 (some .int) :: ([.fieldLink RX5 63 "DrillVaultModel" "last" "I"] ++ wsX50)
def wsX5_in : List Cond := .code yX5_in cX5_in 3 (some .boolean) :: ([])
def wsX5_goes : List Cond := .code yX5_goes cX5_goes 4 (some .boolean) :: ([.fieldLink RX5 63 "DrillVaultModel" "last" "I"] ++ wsX50)
def wsX5_isCopy : List Cond := .code yX5_isCopy cX5_isCopy 2 (some .boolean) :: ([.fieldLink RX5 66 "DrillVaultModel" "made" "I", .fieldLink RX5 31 "DrillVaultModel" "there" "[Z", .methodLink RX5 69 yX5_in, .static yX5_in, .initialized RX5, .code yX5_in cX5_in 3 (some .boolean)] ++ wsX50)
def wsX5_isFile : List Cond := .code yX5_isFile cX5_isFile 1 (some .boolean) :: ([.methodLink RX5 69 yX5_in, .static yX5_in, .initialized RX5, .code yX5_in cX5_in 3 (some .boolean)])
def wsX5_change : List Cond := .code yX5_change cX5_change 4 (some .int) :: ([.fieldLink RX5 77 "DrillVaultModel" "changes" "I", .fieldLink RX5 7 "DrillVaultModel" "contents" "[I", .fieldLink RX5 13 "DrillVaultModel" "changed" "[I", .methodLink RX5 73 yX5_isFile, .static yX5_isFile, .initialized RX5, .code yX5_isFile cX5_isFile 1 (some .boolean), .methodLink RX5 69 yX5_in, .static yX5_in, .code yX5_in cX5_in 3 (some .boolean), .methodLink RX5 80 yX5_goes, .instanceMethod yX5_goes, .selects RX5 yX5_goes yX5_goes, .code yX5_goes cX5_goes 4 (some .boolean), .fieldLink RX5 63 "DrillVaultModel" "last" "I"] ++ wsX50)
def wsX5_pass : List Cond := .code yX5_pass cX5_pass 3 (some .int) :: ([.fieldLink RX5 84 "DrillVaultModel" "day" "I", .methodLink RX5 69 yX5_in, .static yX5_in, .initialized RX5, .code yX5_in cX5_in 3 (some .boolean), .methodLink RX5 80 yX5_goes, .instanceMethod yX5_goes, .selects RX5 yX5_goes yX5_goes, .code yX5_goes cX5_goes 4 (some .boolean), .fieldLink RX5 63 "DrillVaultModel" "last" "I"] ++ wsX50)
def wsX5_latest : List Cond := .code yX5_latest cX5_latest 3 (some .int) :: ([.fieldLink RX5 66 "DrillVaultModel" "made" "I", .fieldLink RX5 31 "DrillVaultModel" "there" "[Z"] ++ wsX50)
def wsX5_makes : List Cond := .code yX5_makes cX5_makes 4 (some .int) :: ([.fieldLink RX5 16 "DrillVaultModel" "days" "[I", .fieldLink RX5 66 "DrillVaultModel" "made" "I", .fieldLink RX5 84 "DrillVaultModel" "day" "I", .fieldLink RX5 19 "DrillVaultModel" "bases" "[I", .fieldLink RX5 25 "DrillVaultModel" "madeAt" "[I", .fieldLink RX5 77 "DrillVaultModel" "changes" "I", .fieldLink RX5 13 "DrillVaultModel" "changed" "[I", .fieldLink RX5 28 "DrillVaultModel" "kept" "[I", .fieldLink RX5 7 "DrillVaultModel" "contents" "[I", .fieldLink RX5 22 "DrillVaultModel" "sizes" "[I", .fieldLink RX5 31 "DrillVaultModel" "there" "[Z"] ++ wsX50)
def wsX5_full : List Cond := .code yX5_full cX5_full 1 (some .int) :: ([.fieldLink RX5 66 "DrillVaultModel" "made" "I", .methodLink RX5 80 yX5_goes, .instanceMethod yX5_goes, .selects RX5 yX5_goes yX5_goes, .initialized RX5, .code yX5_goes cX5_goes 4 (some .boolean), .fieldLink RX5 63 "DrillVaultModel" "last" "I", .methodLink RX5 87 yX5_makes, .instanceMethod yX5_makes, .selects RX5 yX5_makes yX5_makes, .code yX5_makes cX5_makes 4 (some .int), .fieldLink RX5 16 "DrillVaultModel" "days" "[I", .fieldLink RX5 84 "DrillVaultModel" "day" "I", .fieldLink RX5 19 "DrillVaultModel" "bases" "[I", .fieldLink RX5 25 "DrillVaultModel" "madeAt" "[I", .fieldLink RX5 77 "DrillVaultModel" "changes" "I", .fieldLink RX5 13 "DrillVaultModel" "changed" "[I", .fieldLink RX5 28 "DrillVaultModel" "kept" "[I", .fieldLink RX5 7 "DrillVaultModel" "contents" "[I", .fieldLink RX5 22 "DrillVaultModel" "sizes" "[I", .fieldLink RX5 31 "DrillVaultModel" "there" "[Z"] ++ wsX50)
def wsX5_increment_r1 : List Cond := [Cond.fieldLink RX5 66 "DrillVaultModel" "made" "I", Cond.methodLink RX5 91 yX5_latest, Cond.instanceMethod yX5_latest, Cond.selects RX5 yX5_latest yX5_latest, Cond.initialized RX5, Cond.code yX5_latest cX5_latest 3 (some .int), Cond.fieldLink RX5 31 "DrillVaultModel" "there" "[Z", Cond.methodLink RX5 80 yX5_goes, Cond.instanceMethod yX5_goes, Cond.selects RX5 yX5_goes yX5_goes, Cond.code yX5_goes cX5_goes 4 (some .boolean), Cond.fieldLink RX5 63 "DrillVaultModel" "last" "I", Cond.methodLink RX5 87 yX5_makes, Cond.instanceMethod yX5_makes, Cond.selects RX5 yX5_makes yX5_makes, Cond.code yX5_makes cX5_makes 4 (some .int), Cond.fieldLink RX5 16 "DrillVaultModel" "days" "[I", Cond.fieldLink RX5 84 "DrillVaultModel" "day" "I", Cond.fieldLink RX5 19 "DrillVaultModel" "bases" "[I", Cond.fieldLink RX5 25 "DrillVaultModel" "madeAt" "[I", Cond.fieldLink RX5 77 "DrillVaultModel" "changes" "I", Cond.fieldLink RX5 13 "DrillVaultModel" "changed" "[I", Cond.fieldLink RX5 28 "DrillVaultModel" "kept" "[I", Cond.fieldLink RX5 7 "DrillVaultModel" "contents" "[I"]
def wsX5_increment_r2 : List Cond := [Cond.fieldLink RX5 22 "DrillVaultModel" "sizes" "[I"]
def wsX5_increment : List Cond := .code yX5_increment cX5_increment 1 (some .int) :: ((wsX5_increment_r1 ++ wsX5_increment_r2) ++ wsX50)
def wsX5_promises : List Cond := .code yX5_promises cX5_promises 6 none :: ([.fieldLink RX5 66 "DrillVaultModel" "made" "I", .fieldLink RX5 31 "DrillVaultModel" "there" "[Z", .fieldLink RX5 16 "DrillVaultModel" "days" "[I", .fieldLink RX5 51 "DrillVaultModel" "promised" "[Z"] ++ wsX50)
def wsX5_marks : List Cond := .code yX5_marks cX5_marks 4 (some .int) :: ([.fieldLink RX5 66 "DrillVaultModel" "made" "I", .fieldLink RX5 51 "DrillVaultModel" "promised" "[Z", .fieldLink RX5 54 "DrillVaultModel" "needed" "[Z", .fieldLink RX5 41 "DrillVaultModel" "dayRule" "I", .fieldLink RX5 45 "DrillVaultModel" "weekRule" "I", .fieldLink RX5 48 "DrillVaultModel" "monthRule" "I", .fieldLink RX5 19 "DrillVaultModel" "bases" "[I", .methodLink RX5 95 yX5_promises, .instanceMethod yX5_promises, .selects RX5 yX5_promises yX5_promises, .initialized RX5, .code yX5_promises cX5_promises 6 none, .fieldLink RX5 31 "DrillVaultModel" "there" "[Z", .fieldLink RX5 16 "DrillVaultModel" "days" "[I"] ++ wsX50)
def wsX5_isBroken : List Cond := .code yX5_isBroken cX5_isBroken 4 (some .boolean) :: ([.fieldLink RX5 35 "DrillVaultModel" "damaged" "[Z", .fieldLink RX5 19 "DrillVaultModel" "bases" "[I"] ++ wsX50)
def wsX5_damage_r1 : List Cond := [Cond.fieldLink RX5 35 "DrillVaultModel" "damaged" "[Z", Cond.fieldLink RX5 38 "DrillVaultModel" "proved" "[Z", Cond.fieldLink RX5 66 "DrillVaultModel" "made" "I", Cond.fieldLink RX5 51 "DrillVaultModel" "promised" "[Z", Cond.methodLink RX5 99 yX5_isCopy, Cond.instanceMethod yX5_isCopy, Cond.selects RX5 yX5_isCopy yX5_isCopy, Cond.initialized RX5, Cond.code yX5_isCopy cX5_isCopy 2 (some .boolean), Cond.fieldLink RX5 31 "DrillVaultModel" "there" "[Z", Cond.methodLink RX5 69 yX5_in, Cond.static yX5_in, Cond.code yX5_in cX5_in 3 (some .boolean), Cond.methodLink RX5 80 yX5_goes, Cond.instanceMethod yX5_goes, Cond.selects RX5 yX5_goes yX5_goes, Cond.code yX5_goes cX5_goes 4 (some .boolean), Cond.fieldLink RX5 63 "DrillVaultModel" "last" "I", Cond.methodLink RX5 102 yX5_marks, Cond.instanceMethod yX5_marks, Cond.selects RX5 yX5_marks yX5_marks, Cond.code yX5_marks cX5_marks 4 (some .int), Cond.fieldLink RX5 54 "DrillVaultModel" "needed" "[Z", Cond.fieldLink RX5 41 "DrillVaultModel" "dayRule" "I"]
def wsX5_damage_r2 : List Cond := [Cond.fieldLink RX5 45 "DrillVaultModel" "weekRule" "I", Cond.fieldLink RX5 48 "DrillVaultModel" "monthRule" "I", Cond.fieldLink RX5 19 "DrillVaultModel" "bases" "[I", Cond.methodLink RX5 95 yX5_promises, Cond.instanceMethod yX5_promises, Cond.selects RX5 yX5_promises yX5_promises, Cond.code yX5_promises cX5_promises 6 none, Cond.fieldLink RX5 16 "DrillVaultModel" "days" "[I", Cond.methodLink RX5 105 yX5_isBroken, Cond.instanceMethod yX5_isBroken, Cond.selects RX5 yX5_isBroken yX5_isBroken, Cond.code yX5_isBroken cX5_isBroken 4 (some .boolean)]
def wsX5_damage : List Cond := .code yX5_damage cX5_damage 4 (some .int) :: ((wsX5_damage_r1 ++ wsX5_damage_r2) ++ wsX50)
def wsX5_drill : List Cond := .code yX5_drill cX5_drill 5 (some .int) :: ([.fieldLink RX5 38 "DrillVaultModel" "proved" "[Z", .fieldLink RX5 19 "DrillVaultModel" "bases" "[I", .methodLink RX5 99 yX5_isCopy, .instanceMethod yX5_isCopy, .selects RX5 yX5_isCopy yX5_isCopy, .initialized RX5, .code yX5_isCopy cX5_isCopy 2 (some .boolean), .fieldLink RX5 66 "DrillVaultModel" "made" "I", .fieldLink RX5 31 "DrillVaultModel" "there" "[Z", .methodLink RX5 69 yX5_in, .static yX5_in, .code yX5_in cX5_in 3 (some .boolean), .methodLink RX5 80 yX5_goes, .instanceMethod yX5_goes, .selects RX5 yX5_goes yX5_goes, .code yX5_goes cX5_goes 4 (some .boolean), .fieldLink RX5 63 "DrillVaultModel" "last" "I", .methodLink RX5 105 yX5_isBroken, .instanceMethod yX5_isBroken, .selects RX5 yX5_isBroken yX5_isBroken, .code yX5_isBroken cX5_isBroken 4 (some .boolean), .fieldLink RX5 35 "DrillVaultModel" "damaged" "[Z"] ++ wsX50)
def wsX5_setRules_r1 : List Cond := [Cond.fieldLink RX5 41 "DrillVaultModel" "dayRule" "I", Cond.fieldLink RX5 45 "DrillVaultModel" "weekRule" "I", Cond.fieldLink RX5 48 "DrillVaultModel" "monthRule" "I", Cond.methodLink RX5 69 yX5_in, Cond.static yX5_in, Cond.initialized RX5, Cond.code yX5_in cX5_in 3 (some .boolean), Cond.methodLink RX5 80 yX5_goes, Cond.instanceMethod yX5_goes, Cond.selects RX5 yX5_goes yX5_goes, Cond.code yX5_goes cX5_goes 4 (some .boolean), Cond.fieldLink RX5 63 "DrillVaultModel" "last" "I", Cond.methodLink RX5 102 yX5_marks, Cond.instanceMethod yX5_marks, Cond.selects RX5 yX5_marks yX5_marks, Cond.code yX5_marks cX5_marks 4 (some .int), Cond.fieldLink RX5 66 "DrillVaultModel" "made" "I", Cond.fieldLink RX5 51 "DrillVaultModel" "promised" "[Z", Cond.fieldLink RX5 54 "DrillVaultModel" "needed" "[Z", Cond.fieldLink RX5 19 "DrillVaultModel" "bases" "[I", Cond.methodLink RX5 95 yX5_promises, Cond.instanceMethod yX5_promises, Cond.selects RX5 yX5_promises yX5_promises, Cond.code yX5_promises cX5_promises 6 none]
def wsX5_setRules_r2 : List Cond := [Cond.fieldLink RX5 31 "DrillVaultModel" "there" "[Z", Cond.fieldLink RX5 16 "DrillVaultModel" "days" "[I"]
def wsX5_setRules : List Cond := .code yX5_setRules cX5_setRules 4 (some .int) :: ((wsX5_setRules_r1 ++ wsX5_setRules_r2) ++ wsX50)
def wsX5_thin : List Cond := .code yX5_thin cX5_thin 4 (some .int) :: ([.fieldLink RX5 63 "DrillVaultModel" "last" "I", .fieldLink RX5 66 "DrillVaultModel" "made" "I", .fieldLink RX5 31 "DrillVaultModel" "there" "[Z", .fieldLink RX5 38 "DrillVaultModel" "proved" "[Z", .fieldLink RX5 16 "DrillVaultModel" "days" "[I", .fieldLink RX5 57 "DrillVaultModel" "loose" "[Z", .fieldLink RX5 54 "DrillVaultModel" "needed" "[Z", .fieldLink RX5 19 "DrillVaultModel" "bases" "[I", .fieldLink RX5 22 "DrillVaultModel" "sizes" "[I", .methodLink RX5 102 yX5_marks, .instanceMethod yX5_marks, .selects RX5 yX5_marks yX5_marks, .initialized RX5, .code yX5_marks cX5_marks 4 (some .int), .fieldLink RX5 51 "DrillVaultModel" "promised" "[Z", .fieldLink RX5 41 "DrillVaultModel" "dayRule" "I", .fieldLink RX5 45 "DrillVaultModel" "weekRule" "I", .fieldLink RX5 48 "DrillVaultModel" "monthRule" "I", .methodLink RX5 95 yX5_promises, .instanceMethod yX5_promises, .selects RX5 yX5_promises yX5_promises, .code yX5_promises cX5_promises 6 none] ++ wsX50)
def wsX5_day : List Cond := .code yX5_day cX5_day 1 (some .int) :: ([.fieldLink RX5 63 "DrillVaultModel" "last" "I", .fieldLink RX5 84 "DrillVaultModel" "day" "I"] ++ wsX50)
def wsX5_copies : List Cond := .code yX5_copies cX5_copies 3 (some .int) :: ([.fieldLink RX5 63 "DrillVaultModel" "last" "I", .fieldLink RX5 66 "DrillVaultModel" "made" "I", .fieldLink RX5 31 "DrillVaultModel" "there" "[Z"] ++ wsX50)
def wsX5_space : List Cond := .code yX5_space cX5_space 3 (some .int) :: ([.fieldLink RX5 63 "DrillVaultModel" "last" "I", .fieldLink RX5 66 "DrillVaultModel" "made" "I", .fieldLink RX5 31 "DrillVaultModel" "there" "[Z", .fieldLink RX5 22 "DrillVaultModel" "sizes" "[I"] ++ wsX50)
def wsX5_dayOf : List Cond := .code yX5_dayOf cX5_dayOf 2 (some .int) :: ([.fieldLink RX5 16 "DrillVaultModel" "days" "[I", .methodLink RX5 99 yX5_isCopy, .instanceMethod yX5_isCopy, .selects RX5 yX5_isCopy yX5_isCopy, .initialized RX5, .code yX5_isCopy cX5_isCopy 2 (some .boolean), .fieldLink RX5 66 "DrillVaultModel" "made" "I", .fieldLink RX5 31 "DrillVaultModel" "there" "[Z", .methodLink RX5 69 yX5_in, .static yX5_in, .code yX5_in cX5_in 3 (some .boolean), .methodLink RX5 80 yX5_goes, .instanceMethod yX5_goes, .selects RX5 yX5_goes yX5_goes, .code yX5_goes cX5_goes 4 (some .boolean), .fieldLink RX5 63 "DrillVaultModel" "last" "I"] ++ wsX50)
def wsX5_baseOf : List Cond := .code yX5_baseOf cX5_baseOf 2 (some .int) :: ([.fieldLink RX5 19 "DrillVaultModel" "bases" "[I", .methodLink RX5 99 yX5_isCopy, .instanceMethod yX5_isCopy, .selects RX5 yX5_isCopy yX5_isCopy, .initialized RX5, .code yX5_isCopy cX5_isCopy 2 (some .boolean), .fieldLink RX5 66 "DrillVaultModel" "made" "I", .fieldLink RX5 31 "DrillVaultModel" "there" "[Z", .methodLink RX5 69 yX5_in, .static yX5_in, .code yX5_in cX5_in 3 (some .boolean), .methodLink RX5 80 yX5_goes, .instanceMethod yX5_goes, .selects RX5 yX5_goes yX5_goes, .code yX5_goes cX5_goes 4 (some .boolean), .fieldLink RX5 63 "DrillVaultModel" "last" "I"] ++ wsX50)
def wsX5_keeps : List Cond := .code yX5_keeps cX5_keeps 2 (some .int) :: ([.fieldLink RX5 22 "DrillVaultModel" "sizes" "[I", .methodLink RX5 99 yX5_isCopy, .instanceMethod yX5_isCopy, .selects RX5 yX5_isCopy yX5_isCopy, .initialized RX5, .code yX5_isCopy cX5_isCopy 2 (some .boolean), .fieldLink RX5 66 "DrillVaultModel" "made" "I", .fieldLink RX5 31 "DrillVaultModel" "there" "[Z", .methodLink RX5 69 yX5_in, .static yX5_in, .code yX5_in cX5_in 3 (some .boolean), .methodLink RX5 80 yX5_goes, .instanceMethod yX5_goes, .selects RX5 yX5_goes yX5_goes, .code yX5_goes cX5_goes 4 (some .boolean), .fieldLink RX5 63 "DrillVaultModel" "last" "I"] ++ wsX50)
def wsX5_isPromised_r1 : List Cond := [Cond.fieldLink RX5 51 "DrillVaultModel" "promised" "[Z", Cond.methodLink RX5 102 yX5_marks, Cond.instanceMethod yX5_marks, Cond.selects RX5 yX5_marks yX5_marks, Cond.initialized RX5, Cond.code yX5_marks cX5_marks 4 (some .int), Cond.fieldLink RX5 66 "DrillVaultModel" "made" "I", Cond.fieldLink RX5 54 "DrillVaultModel" "needed" "[Z", Cond.fieldLink RX5 41 "DrillVaultModel" "dayRule" "I", Cond.fieldLink RX5 45 "DrillVaultModel" "weekRule" "I", Cond.fieldLink RX5 48 "DrillVaultModel" "monthRule" "I", Cond.fieldLink RX5 19 "DrillVaultModel" "bases" "[I", Cond.methodLink RX5 95 yX5_promises, Cond.instanceMethod yX5_promises, Cond.selects RX5 yX5_promises yX5_promises, Cond.code yX5_promises cX5_promises 6 none, Cond.fieldLink RX5 31 "DrillVaultModel" "there" "[Z", Cond.fieldLink RX5 16 "DrillVaultModel" "days" "[I", Cond.methodLink RX5 99 yX5_isCopy, Cond.instanceMethod yX5_isCopy, Cond.selects RX5 yX5_isCopy yX5_isCopy, Cond.code yX5_isCopy cX5_isCopy 2 (some .boolean), Cond.methodLink RX5 69 yX5_in, Cond.static yX5_in]
def wsX5_isPromised_r2 : List Cond := [Cond.code yX5_in cX5_in 3 (some .boolean), Cond.methodLink RX5 80 yX5_goes, Cond.instanceMethod yX5_goes, Cond.selects RX5 yX5_goes yX5_goes, Cond.code yX5_goes cX5_goes 4 (some .boolean), Cond.fieldLink RX5 63 "DrillVaultModel" "last" "I"]
def wsX5_isPromised : List Cond := .code yX5_isPromised cX5_isPromised 2 (some .boolean) :: ((wsX5_isPromised_r1 ++ wsX5_isPromised_r2) ++ wsX50)
def wsX5_isNeeded_r1 : List Cond := [Cond.fieldLink RX5 54 "DrillVaultModel" "needed" "[Z", Cond.methodLink RX5 102 yX5_marks, Cond.instanceMethod yX5_marks, Cond.selects RX5 yX5_marks yX5_marks, Cond.initialized RX5, Cond.code yX5_marks cX5_marks 4 (some .int), Cond.fieldLink RX5 66 "DrillVaultModel" "made" "I", Cond.fieldLink RX5 51 "DrillVaultModel" "promised" "[Z", Cond.fieldLink RX5 41 "DrillVaultModel" "dayRule" "I", Cond.fieldLink RX5 45 "DrillVaultModel" "weekRule" "I", Cond.fieldLink RX5 48 "DrillVaultModel" "monthRule" "I", Cond.fieldLink RX5 19 "DrillVaultModel" "bases" "[I", Cond.methodLink RX5 95 yX5_promises, Cond.instanceMethod yX5_promises, Cond.selects RX5 yX5_promises yX5_promises, Cond.code yX5_promises cX5_promises 6 none, Cond.fieldLink RX5 31 "DrillVaultModel" "there" "[Z", Cond.fieldLink RX5 16 "DrillVaultModel" "days" "[I", Cond.methodLink RX5 99 yX5_isCopy, Cond.instanceMethod yX5_isCopy, Cond.selects RX5 yX5_isCopy yX5_isCopy, Cond.code yX5_isCopy cX5_isCopy 2 (some .boolean), Cond.methodLink RX5 69 yX5_in, Cond.static yX5_in]
def wsX5_isNeeded_r2 : List Cond := [Cond.code yX5_in cX5_in 3 (some .boolean), Cond.methodLink RX5 80 yX5_goes, Cond.instanceMethod yX5_goes, Cond.selects RX5 yX5_goes yX5_goes, Cond.code yX5_goes cX5_goes 4 (some .boolean), Cond.fieldLink RX5 63 "DrillVaultModel" "last" "I"]
def wsX5_isNeeded : List Cond := .code yX5_isNeeded cX5_isNeeded 2 (some .boolean) :: ((wsX5_isNeeded_r1 ++ wsX5_isNeeded_r2) ++ wsX50)
def wsX5_isProved : List Cond := .code yX5_isProved cX5_isProved 2 (some .boolean) :: ([.fieldLink RX5 38 "DrillVaultModel" "proved" "[Z", .methodLink RX5 99 yX5_isCopy, .instanceMethod yX5_isCopy, .selects RX5 yX5_isCopy yX5_isCopy, .initialized RX5, .code yX5_isCopy cX5_isCopy 2 (some .boolean), .fieldLink RX5 66 "DrillVaultModel" "made" "I", .fieldLink RX5 31 "DrillVaultModel" "there" "[Z", .methodLink RX5 69 yX5_in, .static yX5_in, .code yX5_in cX5_in 3 (some .boolean), .methodLink RX5 80 yX5_goes, .instanceMethod yX5_goes, .selects RX5 yX5_goes yX5_goes, .code yX5_goes cX5_goes 4 (some .boolean), .fieldLink RX5 63 "DrillVaultModel" "last" "I"] ++ wsX50)
def wsX5_restore : List Cond := .code yX5_restore cX5_restore 4 (some .int) :: ([.fieldLink RX5 28 "DrillVaultModel" "kept" "[I", .fieldLink RX5 19 "DrillVaultModel" "bases" "[I", .methodLink RX5 99 yX5_isCopy, .instanceMethod yX5_isCopy, .selects RX5 yX5_isCopy yX5_isCopy, .initialized RX5, .code yX5_isCopy cX5_isCopy 2 (some .boolean), .fieldLink RX5 66 "DrillVaultModel" "made" "I", .fieldLink RX5 31 "DrillVaultModel" "there" "[Z", .methodLink RX5 69 yX5_in, .static yX5_in, .code yX5_in cX5_in 3 (some .boolean), .methodLink RX5 73 yX5_isFile, .static yX5_isFile, .code yX5_isFile cX5_isFile 1 (some .boolean), .methodLink RX5 80 yX5_goes, .instanceMethod yX5_goes, .selects RX5 yX5_goes yX5_goes, .code yX5_goes cX5_goes 4 (some .boolean), .fieldLink RX5 63 "DrillVaultModel" "last" "I"] ++ wsX50)
def wsX5_restoreByChanges : List Cond := .code yX5_restoreByChanges cX5_restoreByChanges 3 (some .int) :: ([.methodLink RX5 108 yX5_restore, .instanceMethod yX5_restore, .selects RX5 yX5_restore yX5_restore, .initialized RX5, .code yX5_restore cX5_restore 4 (some .int), .fieldLink RX5 28 "DrillVaultModel" "kept" "[I", .fieldLink RX5 19 "DrillVaultModel" "bases" "[I", .methodLink RX5 99 yX5_isCopy, .instanceMethod yX5_isCopy, .selects RX5 yX5_isCopy yX5_isCopy, .code yX5_isCopy cX5_isCopy 2 (some .boolean), .fieldLink RX5 66 "DrillVaultModel" "made" "I", .fieldLink RX5 31 "DrillVaultModel" "there" "[Z", .methodLink RX5 69 yX5_in, .static yX5_in, .code yX5_in cX5_in 3 (some .boolean), .methodLink RX5 73 yX5_isFile, .static yX5_isFile, .code yX5_isFile cX5_isFile 1 (some .boolean), .methodLink RX5 80 yX5_goes, .instanceMethod yX5_goes, .selects RX5 yX5_goes yX5_goes, .code yX5_goes cX5_goes 4 (some .boolean), .fieldLink RX5 63 "DrillVaultModel" "last" "I"] ++ wsX50)
def wsX5_isDay : List Cond := .code yX5_isDay cX5_isDay 1 (some .boolean) :: ([.methodLink RX5 69 yX5_in, .static yX5_in, .initialized RX5, .code yX5_in cX5_in 3 (some .boolean)])
def wsX5_onCall : List Cond := .code yX5_onCall cX5_onCall 2 (some .int) :: ([.fieldLink RX5 60 "DrillVaultModel" "rota" "[I", .methodLink RX5 112 yX5_isDay, .static yX5_isDay, .initialized RX5, .code yX5_isDay cX5_isDay 1 (some .boolean), .methodLink RX5 69 yX5_in, .static yX5_in, .code yX5_in cX5_in 3 (some .boolean), .methodLink RX5 80 yX5_goes, .instanceMethod yX5_goes, .selects RX5 yX5_goes yX5_goes, .code yX5_goes cX5_goes 4 (some .boolean), .fieldLink RX5 63 "DrillVaultModel" "last" "I"] ++ wsX50)
def wsX5_isTwice : List Cond := .code yX5_isTwice cX5_isTwice 2 (some .boolean) :: ([.fieldLink RX5 60 "DrillVaultModel" "rota" "[I"] ++ wsX50)
def wsX5_exchanges : List Cond := .code yX5_exchanges cX5_exchanges 4 none :: ([.fieldLink RX5 60 "DrillVaultModel" "rota" "[I"] ++ wsX50)
def wsX5_swap : List Cond := .code yX5_swap cX5_swap 5 (some .int) :: ([.fieldLink RX5 84 "DrillVaultModel" "day" "I", .fieldLink RX5 60 "DrillVaultModel" "rota" "[I", .methodLink RX5 69 yX5_in, .static yX5_in, .initialized RX5, .code yX5_in cX5_in 3 (some .boolean), .methodLink RX5 115 yX5_exchanges, .instanceMethod yX5_exchanges, .selects RX5 yX5_exchanges yX5_exchanges, .code yX5_exchanges cX5_exchanges 4 none, .methodLink RX5 118 yX5_isTwice, .instanceMethod yX5_isTwice, .selects RX5 yX5_isTwice yX5_isTwice, .code yX5_isTwice cX5_isTwice 2 (some .boolean), .methodLink RX5 80 yX5_goes, .instanceMethod yX5_goes, .selects RX5 yX5_goes yX5_goes, .code yX5_goes cX5_goes 4 (some .boolean), .fieldLink RX5 63 "DrillVaultModel" "last" "I"] ++ wsX50)
def wsX5_alarm : List Cond := .code yX5_alarm cX5_alarm 3 (some .int) :: ([.fieldLink RX5 60 "DrillVaultModel" "rota" "[I", .fieldLink RX5 84 "DrillVaultModel" "day" "I", .methodLink RX5 69 yX5_in, .static yX5_in, .initialized RX5, .code yX5_in cX5_in 3 (some .boolean), .methodLink RX5 80 yX5_goes, .instanceMethod yX5_goes, .selects RX5 yX5_goes yX5_goes, .code yX5_goes cX5_goes 4 (some .boolean), .fieldLink RX5 63 "DrillVaultModel" "last" "I"] ++ wsX50)
def wsJ9_max_7cf53 : List Cond := .code yJ9_max_7cf53 cJ9_max_7cf53 2 (some .int) :: ([])
set_option maxRecDepth 20000 in
theorem ggX1_keepAll_X0_keep : GoodIn wsX1_keepAll wsX0_keep := goodIn_r _ [6, 7, 8, 13, 14, 15, 16, 17, 18, 19, 20, 21, 22, 23] (by decide +kernel) (by decide +kernel)
set_option maxRecDepth 20000 in
theorem gX1_keepAll_X0_keep : GoodIn wsX1_keepAll (wsV RX1 25 RX0 yX0_keep wsX0_keep) := goodIn_app (goodIn_of _ (by decide +kernel)) ggX1_keepAll_X0_keep
set_option maxRecDepth 20000 in
theorem ggX1_keepChanged_X1_contentNow : GoodIn wsX1_keepChanged wsX1_contentNow := goodIn_r _ [11, 12, 20, 21, 22, 23] (by decide +kernel) (by decide +kernel)
set_option maxRecDepth 20000 in
theorem gX1_keepChanged_X1_contentNow : GoodIn wsX1_keepChanged (wsV RX1 37 RX1 yX1_contentNow wsX1_contentNow) := goodIn_app (goodIn_of _ (by decide +kernel)) ggX1_keepChanged_X1_contentNow
set_option maxRecDepth 20000 in
theorem ggX1_keepChanged_X0_keep : GoodIn wsX1_keepChanged wsX0_keep := goodIn_r _ [17, 18, 19, 24, 25, 26, 27, 28, 29, 30, 31, 32, 33, 34] (by decide +kernel) (by decide +kernel)
set_option maxRecDepth 20000 in
theorem gX1_keepChanged_X0_keep : GoodIn wsX1_keepChanged (wsV RX1 25 RX0 yX0_keep wsX0_keep) := goodIn_app (goodIn_of _ (by decide +kernel)) ggX1_keepChanged_X0_keep
set_option maxRecDepth 20000 in
theorem ggX2_exchangeIfRested_X2_exchange : GoodIn wsX2_exchangeIfRested wsX2_exchange := goodIn_r _ [5, 6, 15] (by decide +kernel) (by decide +kernel)
set_option maxRecDepth 20000 in
theorem gX2_exchangeIfRested_X2_exchange : GoodIn wsX2_exchangeIfRested (wsV RX2 15 RX2 yX2_exchange wsX2_exchange) := goodIn_app (goodIn_of _ (by decide +kernel)) ggX2_exchangeIfRested_X2_exchange
set_option maxRecDepth 20000 in
theorem ggX2_exchangeIfRested_X2_isRestedAround : GoodIn wsX2_exchangeIfRested wsX2_isRestedAround := goodIn_r _ [10, 11, 12, 13, 4, 14, 6, 15] (by decide +kernel) (by decide +kernel)
set_option maxRecDepth 20000 in
theorem gX2_exchangeIfRested_X2_isRestedAround : GoodIn wsX2_exchangeIfRested (wsV RX2 19 RX2 yX2_isRestedAround wsX2_isRestedAround) := goodIn_app (goodIn_of _ (by decide +kernel)) ggX2_exchangeIfRested_X2_isRestedAround
set_option maxRecDepth 20000 in
theorem ggX2_isRestedAround_X2_personOn : GoodIn wsX2_isRestedAround wsX2_personOn := goodIn_r _ [5, 6, 7] (by decide +kernel) (by decide +kernel)
set_option maxRecDepth 20000 in
theorem gX2_isRestedAround_X2_personOn : GoodIn wsX2_isRestedAround (wsV RX2 23 RX2 yX2_personOn wsX2_personOn) := goodIn_app (goodIn_of _ (by decide +kernel)) ggX2_isRestedAround_X2_personOn
set_option maxRecDepth 20000 in
theorem ggX2_firstToAnswer_X2_personOn : GoodIn wsX2_firstToAnswer wsX2_personOn := goodIn_r _ [5, 6, 7] (by decide +kernel) (by decide +kernel)
set_option maxRecDepth 20000 in
theorem gX2_firstToAnswer_X2_personOn : GoodIn wsX2_firstToAnswer (wsV RX2 23 RX2 yX2_personOn wsX2_personOn) := goodIn_app (goodIn_of _ (by decide +kernel)) ggX2_firstToAnswer_X2_personOn
set_option maxRecDepth 20000 in
theorem ggX3_spaceTaken_X0_spaceTaken : GoodIn wsX3_spaceTaken wsX0_spaceTaken := goodIn_r _ [6, 7, 13, 14, 15, 16, 17, 18, 19, 20, 21, 22, 23] (by decide +kernel) (by decide +kernel)
set_option maxRecDepth 20000 in
theorem gX3_spaceTaken_X0_spaceTaken : GoodIn wsX3_spaceTaken (wsV RX3 30 RX0 yX0_spaceTaken wsX0_spaceTaken) := goodIn_app (goodIn_of _ (by decide +kernel)) ggX3_spaceTaken_X0_spaceTaken
set_option maxRecDepth 20000 in
theorem ggX3_markGenerations_X3_promiseLatest : GoodIn wsX3_markGenerations wsX3_promiseLatest := goodIn_r _ [9, 1, 10, 11, 12, 13, 14, 15, 22, 23, 24, 25, 26, 27, 28, 29, 30, 31, 32, 33, 34, 35, 36, 37] (by decide +kernel) (by decide +kernel)
set_option maxRecDepth 20000 in
theorem gX3_markGenerations_X3_promiseLatest : GoodIn wsX3_markGenerations (wsV RX3 41 RX3 yX3_promiseLatest wsX3_promiseLatest) := goodIn_app (goodIn_of _ (by decide +kernel)) ggX3_markGenerations_X3_promiseLatest
set_option maxRecDepth 20000 in
theorem ggX3_markGenerations_X0_markChainNeeded : GoodIn wsX3_markGenerations wsX0_markChainNeeded := goodIn_r _ [19, 20, 21, 27, 28, 29, 30, 31, 32, 33, 34, 35, 36, 37] (by decide +kernel) (by decide +kernel)
set_option maxRecDepth 20000 in
theorem gX3_markGenerations_X0_markChainNeeded : GoodIn wsX3_markGenerations (wsV RX3 45 RX0 yX0_markChainNeeded wsX0_markChainNeeded) := goodIn_app (goodIn_of _ (by decide +kernel)) ggX3_markGenerations_X0_markChainNeeded
set_option maxRecDepth 20000 in
theorem ggX3_promiseLatest_X0_periodOf : GoodIn wsX3_promiseLatest wsX0_periodOf := goodIn_r _ [6, 7, 13, 14, 15, 16, 17, 18, 19, 20, 21, 22, 23] (by decide +kernel) (by decide +kernel)
set_option maxRecDepth 20000 in
theorem gX3_promiseLatest_X0_periodOf : GoodIn wsX3_promiseLatest (wsV RX3 48 RX0 yX0_periodOf wsX0_periodOf) := goodIn_app (goodIn_of _ (by decide +kernel)) ggX3_promiseLatest_X0_periodOf
set_option maxRecDepth 20000 in
theorem ggX3_countPromised_X3_markGenerations : GoodIn wsX3_countPromised wsX3_markGenerations := goodIn_r _ [6, 1, 7, 8, 9, 10, 11, 12, 5, 13, 14, 15, 16, 17, 18, 19, 20, 21, 22, 23, 24, 25, 26, 27, 28, 29, 30, 31, 32, 33, 34, 35, 36, 37, 38, 39, 40, 41] (by decide +kernel) (by decide +kernel)
set_option maxRecDepth 20000 in
theorem gX3_countPromised_X3_markGenerations : GoodIn wsX3_countPromised (wsV RX3 52 RX3 yX3_markGenerations wsX3_markGenerations) := goodIn_app (goodIn_of _ (by decide +kernel)) ggX3_countPromised_X3_markGenerations
set_option maxRecDepth 20000 in
theorem ggX3_countPromisedButDamaged_X3_markGenerations : GoodIn wsX3_countPromisedButDamaged wsX3_markGenerations := goodIn_r _ [6, 1, 7, 8, 9, 10, 11, 12, 5, 13, 14, 15, 16, 17, 18, 19, 20, 21, 22, 23, 24, 25, 31, 32, 33, 34, 35, 36, 37, 38, 39, 40, 41, 42, 43, 44, 45, 46] (by decide +kernel) (by decide +kernel)
set_option maxRecDepth 20000 in
theorem gX3_countPromisedButDamaged_X3_markGenerations : GoodIn wsX3_countPromisedButDamaged (wsV RX3 52 RX3 yX3_markGenerations wsX3_markGenerations) := goodIn_app (goodIn_of _ (by decide +kernel)) ggX3_countPromisedButDamaged_X3_markGenerations
set_option maxRecDepth 20000 in
theorem ggX3_countPromisedButDamaged_X0_hasDamagedChain : GoodIn wsX3_countPromisedButDamaged wsX0_hasDamagedChain := goodIn_r _ [29, 30, 25, 36, 37, 38, 39, 40, 41, 42, 43, 44, 45, 46] (by decide +kernel) (by decide +kernel)
set_option maxRecDepth 20000 in
theorem gX3_countPromisedButDamaged_X0_hasDamagedChain : GoodIn wsX3_countPromisedButDamaged (wsV RX3 55 RX0 yX0_hasDamagedChain wsX0_hasDamagedChain) := goodIn_app (goodIn_of _ (by decide +kernel)) ggX3_countPromisedButDamaged_X0_hasDamagedChain
set_option maxRecDepth 20000 in
theorem ggX3_takeOffLoose_X3_markGenerations : GoodIn wsX3_takeOffLoose wsX3_markGenerations := goodIn_r _ [6, 1, 7, 8, 9, 10, 11, 12, 5, 13, 14, 15, 16, 17, 18, 19, 20, 21, 22, 23, 24, 25, 43, 44, 45, 46, 47, 48, 49, 50, 51, 52, 53, 54, 55, 56, 57, 58] (by decide +kernel) (by decide +kernel)
set_option maxRecDepth 20000 in
theorem gX3_takeOffLoose_X3_markGenerations : GoodIn wsX3_takeOffLoose (wsV RX3 52 RX3 yX3_markGenerations wsX3_markGenerations) := goodIn_app (goodIn_of _ (by decide +kernel)) ggX3_takeOffLoose_X3_markGenerations
set_option maxRecDepth 20000 in
theorem ggX3_takeOffLoose_X3_latestProvedDay : GoodIn wsX3_takeOffLoose wsX3_latestProvedDay := goodIn_r _ [29, 1, 30, 31, 32, 33, 43, 44, 45, 46, 47, 48, 49, 50, 51, 52, 53, 54, 55, 56, 57, 58] (by decide +kernel) (by decide +kernel)
set_option maxRecDepth 20000 in
theorem gX3_takeOffLoose_X3_latestProvedDay : GoodIn wsX3_takeOffLoose (wsV RX3 59 RX3 yX3_latestProvedDay wsX3_latestProvedDay) := goodIn_app (goodIn_of _ (by decide +kernel)) ggX3_takeOffLoose_X3_latestProvedDay
set_option maxRecDepth 20000 in
theorem ggX3_takeOffLoose_X3_markHeld : GoodIn wsX3_takeOffLoose wsX3_markHeld := goodIn_r _ [37, 1, 43, 44, 45, 46, 47, 48, 49, 50, 51, 52, 53, 54, 55, 56, 57, 58] (by decide +kernel) (by decide +kernel)
set_option maxRecDepth 20000 in
theorem gX3_takeOffLoose_X3_markHeld : GoodIn wsX3_takeOffLoose (wsV RX3 62 RX3 yX3_markHeld wsX3_markHeld) := goodIn_app (goodIn_of _ (by decide +kernel)) ggX3_takeOffLoose_X3_markHeld
set_option maxRecDepth 20000 in
theorem ggX3_takeOffLoose_X0_spaceTaken : GoodIn wsX3_takeOffLoose wsX0_spaceTaken := goodIn_r _ [41, 42, 48, 49, 50, 51, 52, 53, 54, 55, 56, 57, 58] (by decide +kernel) (by decide +kernel)
set_option maxRecDepth 20000 in
theorem gX3_takeOffLoose_X0_spaceTaken : GoodIn wsX3_takeOffLoose (wsV RX3 30 RX0 yX0_spaceTaken wsX0_spaceTaken) := goodIn_app (goodIn_of _ (by decide +kernel)) ggX3_takeOffLoose_X0_spaceTaken
set_option maxRecDepth 20000 in
theorem ggX4_init_X1_init : GoodIn wsX4_init wsX1_init := goodIn_r _ [18, 19, 2, 3, 20, 21, 22, 23, 37, 38, 39, 40] (by decide +kernel) (by decide +kernel)
set_option maxRecDepth 20000 in
theorem gX4_init_X1_init_n9 : GoodIn wsX4_init (wsX1_init) := ggX4_init_X1_init
set_option maxRecDepth 20000 in
theorem ggX4_init_X3_init : GoodIn wsX4_init wsX3_init := goodIn_r _ [25, 26, 2, 3, 27, 28, 29, 30, 31, 45, 46, 47, 48, 49] (by decide +kernel) (by decide +kernel)
set_option maxRecDepth 20000 in
theorem gX4_init_X3_init_n18 : GoodIn wsX4_init (wsX3_init) := ggX4_init_X3_init
set_option maxRecDepth 20000 in
theorem ggX4_init_X2_init : GoodIn wsX4_init wsX2_init := goodIn_r _ [34, 35, 2, 3, 20, 36, 50] (by decide +kernel) (by decide +kernel)
set_option maxRecDepth 20000 in
theorem gX4_init_X2_init : GoodIn wsX4_init (wsX2_init) := ggX4_init_X2_init
set_option maxRecDepth 20000 in
theorem ggX4_change_X4_requireFile : GoodIn wsX4_change wsX4_requireFile := goodIn_ca (goodIn_r _ [9, 10, 11] (by decide +kernel) (by decide +kernel)) (goodIn_sub (fun _ h => List.mem_cons_of_mem _ (List.mem_append_right _ h)) (by decide +kernel))
set_option maxRecDepth 20000 in
theorem gX4_change_X4_requireFile : GoodIn wsX4_change (va_wsS RX4 34 yX4_requireFile wsX4_requireFile) := goodIn_app (goodIn_of _ (by decide +kernel)) ggX4_change_X4_requireFile
set_option maxRecDepth 20000 in
theorem ggX4_change_X1_contentNow : GoodIn wsX4_change wsX1_contentNow := goodIn_r _ [16, 17, 29, 30, 31, 32] (by decide +kernel) (by decide +kernel)
set_option maxRecDepth 20000 in
theorem gX4_change_X1_contentNow : GoodIn wsX4_change (wsV RX4 53 RX1 yX1_contentNow wsX1_contentNow) := goodIn_app (goodIn_of _ (by decide +kernel)) ggX4_change_X1_contentNow
set_option maxRecDepth 20000 in
theorem ggX4_change_X1_write : GoodIn wsX4_change wsX1_write := goodIn_r _ [21, 17, 22, 23, 24, 29, 30, 31, 32] (by decide +kernel) (by decide +kernel)
set_option maxRecDepth 20000 in
theorem gX4_change_X1_write : GoodIn wsX4_change (wsV RX4 57 RX1 yX1_write wsX1_write) := goodIn_app (goodIn_of _ (by decide +kernel)) ggX4_change_X1_write
set_option maxRecDepth 20000 in
theorem ggX4_full_X0_init : GoodIn wsX4_full wsX0_init := goodIn_r _ [11, 12, 13, 14, 15, 16, 17, 18, 19, 20, 48, 49, 50, 51, 52, 53, 54, 55, 56, 57, 58] (by decide +kernel) (by decide +kernel)
set_option maxRecDepth 20000 in
theorem gX4_full_X0_init : GoodIn wsX4_full (wsX0_init) := ggX4_full_X0_init
set_option maxRecDepth 20000 in
theorem ggX4_full_X1_keepAll : GoodIn wsX4_full wsX1_keepAll := goodIn_r _ [25, 26, 27, 28, 29, 6, 30, 16, 31, 59, 60, 61, 62, 48, 49, 50, 51, 52, 53, 54, 55, 56, 57, 58] (by decide +kernel) (by decide +kernel)
set_option maxRecDepth 20000 in
theorem gX4_full_X1_keepAll : GoodIn wsX4_full (wsV RX4 75 RX1 yX1_keepAll wsX1_keepAll) := goodIn_app (goodIn_of _ (by decide +kernel)) ggX4_full_X1_keepAll
set_option maxRecDepth 20000 in
theorem ggX4_full_X3_put : GoodIn wsX4_full wsX3_put := goodIn_r _ [36, 37, 38, 43, 44, 45, 46, 47] (by decide +kernel) (by decide +kernel)
set_option maxRecDepth 20000 in
theorem gX4_full_X3_put : GoodIn wsX4_full (wsV RX4 79 RX3 yX3_put wsX3_put) := goodIn_app (goodIn_of _ (by decide +kernel)) ggX4_full_X3_put
set_option maxRecDepth 20000 in
theorem ggX4_increment_X3_latest : GoodIn wsX4_increment wsX3_latest := goodIn_r _ [13, 14, 57, 58, 59, 60, 61] (by decide +kernel) (by decide +kernel)
set_option maxRecDepth 20000 in
theorem gX4_increment_X3_latest : GoodIn wsX4_increment (wsV RX4 85 RX3 yX3_latest wsX3_latest) := goodIn_app (goodIn_of _ (by decide +kernel)) ggX4_increment_X3_latest
set_option maxRecDepth 20000 in
theorem ggX4_increment_X0_init : GoodIn wsX4_increment wsX0_init := goodIn_r _ [17, 18, 19, 20, 21, 22, 23, 24, 25, 26, 62, 63, 64, 65, 66, 67, 68, 69, 70, 71, 72] (by decide +kernel) (by decide +kernel)
set_option maxRecDepth 20000 in
theorem gX4_increment_X0_init : GoodIn wsX4_increment (wsX0_init) := ggX4_increment_X0_init
set_option maxRecDepth 20000 in
theorem ggX4_increment_X1_keepChanged : GoodIn wsX4_increment wsX1_keepChanged := goodIn_r _ [31, 32, 33, 34, 35, 36, 37, 38, 39, 40, 30, 41, 42, 43, 44, 45, 6, 46, 22, 47, 73, 74, 75, 76, 62, 63, 64, 65, 66, 67, 68, 69, 70, 71, 72] (by decide +kernel) (by decide +kernel)
set_option maxRecDepth 20000 in
theorem gX4_increment_X1_keepChanged : GoodIn wsX4_increment (wsV RX4 94 RX1 yX1_keepChanged wsX1_keepChanged) := goodIn_app (goodIn_of _ (by decide +kernel)) ggX4_increment_X1_keepChanged
set_option maxRecDepth 20000 in
theorem ggX4_increment_X3_put : GoodIn wsX4_increment wsX3_put := goodIn_r _ [51, 52, 14, 57, 58, 59, 60, 61] (by decide +kernel) (by decide +kernel)
set_option maxRecDepth 20000 in
theorem gX4_increment_X3_put : GoodIn wsX4_increment (wsV RX4 79 RX3 yX3_put wsX3_put) := goodIn_app (goodIn_of _ (by decide +kernel)) ggX4_increment_X3_put
set_option maxRecDepth 20000 in
theorem ggX4_damage_X4_requireCopy : GoodIn wsX4_damage wsX4_requireCopy := goodIn_ca (goodIn_r _ [6, 7, 8, 1, 9, 10, 11, 12, 13, 14, 58, 59, 60, 61, 62, 63, 64, 65, 66] (by decide +kernel) (by decide +kernel)) (goodIn_sub (fun _ h => List.mem_cons_of_mem _ (List.mem_append_right _ h)) (by decide +kernel))
set_option maxRecDepth 20000 in
theorem gX4_damage_X4_requireCopy : GoodIn wsX4_damage (wsV RX4 98 RX4 yX4_requireCopy wsX4_requireCopy) := goodIn_app (goodIn_of _ (by decide +kernel)) ggX4_damage_X4_requireCopy
set_option maxRecDepth 20000 in
theorem ggX4_damage_X3_countPromisedButDamaged : GoodIn wsX4_damage wsX3_countPromisedButDamaged := goodIn_r _ [18, 14, 19, 20, 21, 12, 22, 23, 24, 25, 26, 27, 28, 29, 30, 31, 32, 33, 34, 35, 36, 37, 38, 39, 40, 41, 42, 43, 44, 45, 46, 62, 63, 64, 65, 66, 47, 48, 49, 50, 51, 52, 53, 54, 55, 56, 57] (by decide +kernel) (by decide +kernel)
set_option maxRecDepth 20000 in
theorem gX4_damage_X3_countPromisedButDamaged : GoodIn wsX4_damage (wsV RX4 109 RX3 yX3_countPromisedButDamaged wsX3_countPromisedButDamaged) := goodIn_app (goodIn_of _ (by decide +kernel)) ggX4_damage_X3_countPromisedButDamaged
set_option maxRecDepth 20000 in
theorem ggX4_drill_X4_requireCopy : GoodIn wsX4_drill wsX4_requireCopy := goodIn_ca (goodIn_r _ [5, 6, 7, 8, 9, 10, 11, 12, 13, 14, 31, 32, 33, 34, 35, 36, 37, 38, 39] (by decide +kernel) (by decide +kernel)) (goodIn_sub (fun _ h => List.mem_cons_of_mem _ (List.mem_append_right _ h)) (by decide +kernel))
set_option maxRecDepth 20000 in
theorem gX4_drill_X4_requireCopy : GoodIn wsX4_drill (wsV RX4 98 RX4 yX4_requireCopy wsX4_requireCopy) := goodIn_app (goodIn_of _ (by decide +kernel)) ggX4_drill_X4_requireCopy
set_option maxRecDepth 20000 in
theorem ggX4_drill_X0_hasDamagedChain : GoodIn wsX4_drill wsX0_hasDamagedChain := goodIn_r _ [19, 20, 21, 40, 41, 42, 43, 44, 45, 46, 47, 48, 49, 50] (by decide +kernel) (by decide +kernel)
set_option maxRecDepth 20000 in
theorem gX4_drill_X0_hasDamagedChain : GoodIn wsX4_drill (wsV RX4 113 RX0 yX0_hasDamagedChain wsX0_hasDamagedChain) := goodIn_app (goodIn_of _ (by decide +kernel)) ggX4_drill_X0_hasDamagedChain
set_option maxRecDepth 20000 in
theorem ggX4_drill_X0_proveChain : GoodIn wsX4_drill wsX0_proveChain := goodIn_r _ [25, 26, 21, 40, 41, 42, 43, 44, 45, 46, 47, 48, 49, 50] (by decide +kernel) (by decide +kernel)
set_option maxRecDepth 20000 in
theorem gX4_drill_X0_proveChain : GoodIn wsX4_drill (wsV RX4 117 RX0 yX0_proveChain wsX0_proveChain) := goodIn_app (goodIn_of _ (by decide +kernel)) ggX4_drill_X0_proveChain
set_option maxRecDepth 20000 in
theorem ggX4_drill_X0_chainLength : GoodIn wsX4_drill wsX0_chainLength := goodIn_r _ [30, 21, 40, 41, 42, 43, 44, 45, 46, 47, 48, 49, 50] (by decide +kernel) (by decide +kernel)
set_option maxRecDepth 20000 in
theorem gX4_drill_X0_chainLength : GoodIn wsX4_drill (wsV RX4 121 RX0 yX0_chainLength wsX0_chainLength) := goodIn_app (goodIn_of _ (by decide +kernel)) ggX4_drill_X0_chainLength
set_option maxRecDepth 20000 in
theorem ggX4_setRules_X3_countPromised : GoodIn wsX4_setRules wsX3_countPromised := goodIn_r _ [8, 9, 10, 11, 12, 7, 13, 14, 15, 16, 17, 18, 19, 20, 21, 22, 23, 24, 25, 26, 27, 28, 29, 30, 31, 32, 37, 38, 39, 40, 41, 42, 43, 44, 45, 46, 47, 48, 49, 50, 51, 52] (by decide +kernel) (by decide +kernel)
set_option maxRecDepth 20000 in
theorem gX4_setRules_X3_countPromised : GoodIn wsX4_setRules (wsV RX4 137 RX3 yX3_countPromised wsX3_countPromised) := goodIn_app (goodIn_of _ (by decide +kernel)) ggX4_setRules_X3_countPromised
set_option maxRecDepth 20000 in
theorem ggX4_thin_X3_takeOffLoose : GoodIn wsX4_thin wsX3_takeOffLoose := goodIn_r _ [6, 7, 8, 9, 10, 5, 11, 12, 13, 14, 15, 16, 17, 18, 19, 20, 21, 22, 23, 24, 25, 26, 27, 28, 29, 30, 31, 32, 33, 34, 35, 36, 37, 38, 39, 40, 41, 42, 43, 44, 45, 46, 47, 52, 53, 54, 55, 56, 57, 58, 59, 60, 61, 62, 63, 64, 65, 66, 67] (by decide +kernel) (by decide +kernel)
set_option maxRecDepth 20000 in
theorem gX4_thin_X3_takeOffLoose : GoodIn wsX4_thin (wsV RX4 140 RX3 yX3_takeOffLoose wsX3_takeOffLoose) := goodIn_app (goodIn_of _ (by decide +kernel)) ggX4_thin_X3_takeOffLoose
set_option maxRecDepth 20000 in
theorem ggX4_copies_X3_countThere : GoodIn wsX4_copies wsX3_countThere := goodIn_r _ [6, 7, 12, 13, 14, 15, 16] (by decide +kernel) (by decide +kernel)
set_option maxRecDepth 20000 in
theorem gX4_copies_X3_countThere : GoodIn wsX4_copies (wsV RX4 143 RX3 yX3_countThere wsX3_countThere) := goodIn_app (goodIn_of _ (by decide +kernel)) ggX4_copies_X3_countThere
set_option maxRecDepth 20000 in
theorem ggX4_space_X3_spaceTaken : GoodIn wsX4_space wsX3_spaceTaken := goodIn_r _ [6, 7, 8, 9, 10, 11, 12, 13, 18, 19, 20, 21, 22, 23, 24, 25, 26, 27, 28, 29, 30, 31, 32, 33] (by decide +kernel) (by decide +kernel)
set_option maxRecDepth 20000 in
theorem gX4_space_X3_spaceTaken : GoodIn wsX4_space (wsV RX4 146 RX3 yX3_spaceTaken wsX3_spaceTaken) := goodIn_app (goodIn_of _ (by decide +kernel)) ggX4_space_X3_spaceTaken
set_option maxRecDepth 20000 in
theorem ggX4_dayOf_X4_requireCopy : GoodIn wsX4_dayOf wsX4_requireCopy := goodIn_ca (goodIn_r _ [5, 6, 7, 8, 9, 10, 11, 12, 13, 14, 26, 27, 28, 29, 30, 31, 32, 33, 34] (by decide +kernel) (by decide +kernel)) (goodIn_sub (fun _ h => List.mem_cons_of_mem _ (List.mem_append_right _ h)) (by decide +kernel))
set_option maxRecDepth 20000 in
theorem gX4_dayOf_X4_requireCopy : GoodIn wsX4_dayOf (wsV RX4 98 RX4 yX4_requireCopy wsX4_requireCopy) := goodIn_app (goodIn_of _ (by decide +kernel)) ggX4_dayOf_X4_requireCopy
set_option maxRecDepth 20000 in
theorem ggX4_baseOf_X4_requireCopy : GoodIn wsX4_baseOf wsX4_requireCopy := goodIn_ca (goodIn_r _ [5, 6, 7, 8, 9, 10, 11, 12, 13, 14, 26, 27, 28, 29, 30, 31, 32, 33, 34] (by decide +kernel) (by decide +kernel)) (goodIn_sub (fun _ h => List.mem_cons_of_mem _ (List.mem_append_right _ h)) (by decide +kernel))
set_option maxRecDepth 20000 in
theorem gX4_baseOf_X4_requireCopy : GoodIn wsX4_baseOf (wsV RX4 98 RX4 yX4_requireCopy wsX4_requireCopy) := goodIn_app (goodIn_of _ (by decide +kernel)) ggX4_baseOf_X4_requireCopy
set_option maxRecDepth 20000 in
theorem ggX4_keeps_X4_requireCopy : GoodIn wsX4_keeps wsX4_requireCopy := goodIn_ca (goodIn_r _ [5, 6, 7, 8, 9, 10, 11, 12, 13, 14, 26, 27, 28, 29, 30, 31, 32, 33, 34] (by decide +kernel) (by decide +kernel)) (goodIn_sub (fun _ h => List.mem_cons_of_mem _ (List.mem_append_right _ h)) (by decide +kernel))
set_option maxRecDepth 20000 in
theorem gX4_keeps_X4_requireCopy : GoodIn wsX4_keeps (wsV RX4 98 RX4 yX4_requireCopy wsX4_requireCopy) := goodIn_app (goodIn_of _ (by decide +kernel)) ggX4_keeps_X4_requireCopy
set_option maxRecDepth 20000 in
theorem ggX4_isPromised_X4_requireCopy : GoodIn wsX4_isPromised wsX4_requireCopy := goodIn_ca (goodIn_r _ [6, 7, 8, 1, 9, 10, 11, 12, 13, 14, 38, 39, 40, 41, 53, 54, 55, 56, 57] (by decide +kernel) (by decide +kernel)) (goodIn_sub (fun _ h => List.mem_cons_of_mem _ (List.mem_append_right _ h)) (by decide +kernel))
set_option maxRecDepth 20000 in
theorem gX4_isPromised_X4_requireCopy : GoodIn wsX4_isPromised (wsV RX4 98 RX4 yX4_requireCopy wsX4_requireCopy) := goodIn_app (goodIn_of _ (by decide +kernel)) ggX4_isPromised_X4_requireCopy
set_option maxRecDepth 20000 in
theorem ggX4_isPromised_X3_markGenerations : GoodIn wsX4_isPromised wsX3_markGenerations := goodIn_r _ [18, 14, 19, 20, 21, 22, 23, 24, 12, 25, 26, 27, 28, 29, 30, 31, 32, 33, 34, 35, 36, 37, 53, 54, 55, 56, 57, 42, 43, 44, 45, 46, 47, 48, 49, 50, 51, 52] (by decide +kernel) (by decide +kernel)
set_option maxRecDepth 20000 in
theorem gX4_isPromised_X3_markGenerations : GoodIn wsX4_isPromised (wsV RX4 159 RX3 yX3_markGenerations wsX3_markGenerations) := goodIn_app (goodIn_of _ (by decide +kernel)) ggX4_isPromised_X3_markGenerations
set_option maxRecDepth 20000 in
theorem ggX4_isNeeded_X4_requireCopy : GoodIn wsX4_isNeeded wsX4_requireCopy := goodIn_ca (goodIn_r _ [6, 7, 8, 1, 9, 10, 11, 12, 13, 14, 38, 39, 40, 41, 53, 54, 55, 56, 57] (by decide +kernel) (by decide +kernel)) (goodIn_sub (fun _ h => List.mem_cons_of_mem _ (List.mem_append_right _ h)) (by decide +kernel))
set_option maxRecDepth 20000 in
theorem gX4_isNeeded_X4_requireCopy : GoodIn wsX4_isNeeded (wsV RX4 98 RX4 yX4_requireCopy wsX4_requireCopy) := goodIn_app (goodIn_of _ (by decide +kernel)) ggX4_isNeeded_X4_requireCopy
set_option maxRecDepth 20000 in
theorem ggX4_isNeeded_X3_markGenerations : GoodIn wsX4_isNeeded wsX3_markGenerations := goodIn_r _ [18, 14, 19, 20, 21, 22, 23, 24, 12, 25, 26, 27, 28, 29, 30, 31, 32, 33, 34, 35, 36, 37, 53, 54, 55, 56, 57, 42, 43, 44, 45, 46, 47, 48, 49, 50, 51, 52] (by decide +kernel) (by decide +kernel)
set_option maxRecDepth 20000 in
theorem gX4_isNeeded_X3_markGenerations : GoodIn wsX4_isNeeded (wsV RX4 159 RX3 yX3_markGenerations wsX3_markGenerations) := goodIn_app (goodIn_of _ (by decide +kernel)) ggX4_isNeeded_X3_markGenerations
set_option maxRecDepth 20000 in
theorem ggX4_isProved_X4_requireCopy : GoodIn wsX4_isProved wsX4_requireCopy := goodIn_ca (goodIn_r _ [5, 6, 7, 8, 9, 10, 11, 12, 13, 14, 26, 27, 28, 29, 30, 31, 32, 33, 34] (by decide +kernel) (by decide +kernel)) (goodIn_sub (fun _ h => List.mem_cons_of_mem _ (List.mem_append_right _ h)) (by decide +kernel))
set_option maxRecDepth 20000 in
theorem gX4_isProved_X4_requireCopy : GoodIn wsX4_isProved (wsV RX4 98 RX4 yX4_requireCopy wsX4_requireCopy) := goodIn_app (goodIn_of _ (by decide +kernel)) ggX4_isProved_X4_requireCopy
set_option maxRecDepth 20000 in
theorem ggX4_restore_X4_requireCopy : GoodIn wsX4_restore wsX4_requireCopy := goodIn_ca (goodIn_r _ [5, 6, 7, 8, 9, 10, 11, 12, 13, 14, 25, 26, 27, 28, 29, 30, 31, 32, 33] (by decide +kernel) (by decide +kernel)) (goodIn_sub (fun _ h => List.mem_cons_of_mem _ (List.mem_append_right _ h)) (by decide +kernel))
set_option maxRecDepth 20000 in
theorem gX4_restore_X4_requireCopy : GoodIn wsX4_restore (wsV RX4 98 RX4 yX4_requireCopy wsX4_requireCopy) := goodIn_app (goodIn_of _ (by decide +kernel)) ggX4_restore_X4_requireCopy
set_option maxRecDepth 20000 in
theorem ggX4_restore_X4_requireFile : GoodIn wsX4_restore wsX4_requireFile := goodIn_ca (goodIn_r _ [17, 6, 7] (by decide +kernel) (by decide +kernel)) (goodIn_sub (fun _ h => List.mem_cons_of_mem _ (List.mem_append_right _ h)) (by decide +kernel))
set_option maxRecDepth 20000 in
theorem gX4_restore_X4_requireFile : GoodIn wsX4_restore (va_wsS RX4 34 yX4_requireFile wsX4_requireFile) := goodIn_app (goodIn_of _ (by decide +kernel)) ggX4_restore_X4_requireFile
set_option maxRecDepth 20000 in
theorem ggX4_restore_X0_contentByChain : GoodIn wsX4_restore wsX0_contentByChain := goodIn_r _ [22, 23, 24, 34, 35, 36, 37, 38, 39, 40, 41, 42, 43, 44] (by decide +kernel) (by decide +kernel)
set_option maxRecDepth 20000 in
theorem gX4_restore_X0_contentByChain : GoodIn wsX4_restore (wsV RX4 168 RX0 yX0_contentByChain wsX0_contentByChain) := goodIn_app (goodIn_of _ (by decide +kernel)) ggX4_restore_X0_contentByChain
set_option maxRecDepth 20000 in
theorem ggX4_restoreByChanges_X4_requireCopy : GoodIn wsX4_restoreByChanges wsX4_requireCopy := goodIn_ca (goodIn_r _ [6, 7, 8, 9, 10, 11, 12, 13, 14, 15, 26, 27, 28, 29, 41, 42, 43, 44, 45] (by decide +kernel) (by decide +kernel)) (goodIn_sub (fun _ h => List.mem_cons_of_mem _ (List.mem_append_right _ h)) (by decide +kernel))
set_option maxRecDepth 20000 in
theorem gX4_restoreByChanges_X4_requireCopy : GoodIn wsX4_restoreByChanges (wsV RX4 98 RX4 yX4_requireCopy wsX4_requireCopy) := goodIn_app (goodIn_of _ (by decide +kernel)) ggX4_restoreByChanges_X4_requireCopy
set_option maxRecDepth 20000 in
theorem ggX4_restoreByChanges_X4_requireFile : GoodIn wsX4_restoreByChanges wsX4_requireFile := goodIn_ca (goodIn_r _ [18, 7, 8] (by decide +kernel) (by decide +kernel)) (goodIn_sub (fun _ h => List.mem_cons_of_mem _ (List.mem_append_right _ h)) (by decide +kernel))
set_option maxRecDepth 20000 in
theorem gX4_restoreByChanges_X4_requireFile : GoodIn wsX4_restoreByChanges (va_wsS RX4 34 yX4_requireFile wsX4_requireFile) := goodIn_app (goodIn_of _ (by decide +kernel)) ggX4_restoreByChanges_X4_requireFile
set_option maxRecDepth 20000 in
theorem ggX4_restoreByChanges_X1_contentAfter : GoodIn wsX4_restoreByChanges wsX1_contentAfter := goodIn_r _ [23, 24, 25, 46, 47, 48, 49] (by decide +kernel) (by decide +kernel)
set_option maxRecDepth 20000 in
theorem gX4_restoreByChanges_X1_contentAfter : GoodIn wsX4_restoreByChanges (wsV RX4 171 RX1 yX1_contentAfter wsX1_contentAfter) := goodIn_app (goodIn_of _ (by decide +kernel)) ggX4_restoreByChanges_X1_contentAfter
set_option maxRecDepth 20000 in
theorem ggX4_onCall_X2_personOn : GoodIn wsX4_onCall wsX2_personOn := goodIn_r _ [8, 9, 14] (by decide +kernel) (by decide +kernel)
set_option maxRecDepth 20000 in
theorem gX4_onCall_X2_personOn : GoodIn wsX4_onCall (wsV RX4 177 RX2 yX2_personOn wsX2_personOn) := goodIn_app (goodIn_of _ (by decide +kernel)) ggX4_onCall_X2_personOn
set_option maxRecDepth 20000 in
theorem ggX4_swap_X4_isOpenForSwaps : GoodIn wsX4_swap wsX4_isOpenForSwaps := goodIn_r _ [10, 11, 31, 32, 33, 34] (by decide +kernel) (by decide +kernel)
set_option maxRecDepth 20000 in
theorem gX4_swap_X4_isOpenForSwaps : GoodIn wsX4_swap (wsV RX4 180 RX4 yX4_isOpenForSwaps wsX4_isOpenForSwaps) := goodIn_app (goodIn_of _ (by decide +kernel)) ggX4_swap_X4_isOpenForSwaps
set_option maxRecDepth 20000 in
theorem ggX4_swap_X2_exchangeIfRested : GoodIn wsX4_swap wsX2_exchangeIfRested := goodIn_r _ [16, 17, 18, 19, 15, 20, 21, 22, 23, 24, 25, 26, 27, 28, 29, 35] (by decide +kernel) (by decide +kernel)
set_option maxRecDepth 20000 in
theorem gX4_swap_X2_exchangeIfRested : GoodIn wsX4_swap (wsV RX4 186 RX2 yX2_exchangeIfRested wsX2_exchangeIfRested) := goodIn_app (goodIn_of _ (by decide +kernel)) ggX4_swap_X2_exchangeIfRested
set_option maxRecDepth 20000 in
theorem ggX4_swap_X2_personOn : GoodIn wsX4_swap wsX2_personOn := goodIn_r _ [29, 21, 35] (by decide +kernel) (by decide +kernel)
set_option maxRecDepth 20000 in
theorem gX4_swap_X2_personOn : GoodIn wsX4_swap (wsV RX4 177 RX2 yX2_personOn wsX2_personOn) := goodIn_app (goodIn_of _ (by decide +kernel)) ggX4_swap_X2_personOn
set_option maxRecDepth 20000 in
theorem ggX4_alarm_X2_firstToAnswer : GoodIn wsX4_alarm wsX2_firstToAnswer := goodIn_r _ [9, 10, 11, 12, 8, 13, 14, 19] (by decide +kernel) (by decide +kernel)
set_option maxRecDepth 20000 in
theorem gX4_alarm_X2_firstToAnswer : GoodIn wsX4_alarm (wsV RX4 194 RX2 yX2_firstToAnswer wsX2_firstToAnswer) := goodIn_app (goodIn_of _ (by decide +kernel)) ggX4_alarm_X2_firstToAnswer
set_option maxRecDepth 20000 in
theorem ggX4_requireCopy_X3_find : GoodIn wsX4_requireCopy wsX3_find := goodIn_r _ [8, 9, 14, 15, 16, 17, 18] (by decide +kernel) (by decide +kernel)
set_option maxRecDepth 20000 in
theorem gX4_requireCopy_X3_find : GoodIn wsX4_requireCopy (wsV RX4 202 RX3 yX3_find wsX3_find) := goodIn_app (goodIn_of _ (by decide +kernel)) ggX4_requireCopy_X3_find
set_option maxRecDepth 20000 in
theorem ggX5_isCopy_X5_in : GoodIn wsX5_isCopy wsX5_in := goodIn_r _ [6] (by decide +kernel) (by decide +kernel)
set_option maxRecDepth 20000 in
theorem gX5_isCopy_X5_in : GoodIn wsX5_isCopy (va_wsS RX5 69 yX5_in wsX5_in) := goodIn_app (goodIn_of _ (by decide +kernel)) ggX5_isCopy_X5_in
set_option maxRecDepth 20000 in
theorem ggX5_isFile_X5_in : GoodIn wsX5_isFile wsX5_in := goodIn_r _ [4] (by decide +kernel) (by decide +kernel)
set_option maxRecDepth 20000 in
theorem gX5_isFile_X5_in : GoodIn wsX5_isFile (va_wsS RX5 69 yX5_in wsX5_in) := goodIn_app (goodIn_of _ (by decide +kernel)) ggX5_isFile_X5_in
set_option maxRecDepth 20000 in
theorem ggX5_change_X5_isFile : GoodIn wsX5_change wsX5_isFile := goodIn_r _ [7, 8, 9, 6, 10] (by decide +kernel) (by decide +kernel)
set_option maxRecDepth 20000 in
theorem gX5_change_X5_isFile : GoodIn wsX5_change (va_wsS RX5 73 yX5_isFile wsX5_isFile) := goodIn_app (goodIn_of _ (by decide +kernel)) ggX5_change_X5_isFile
set_option maxRecDepth 20000 in
theorem ggX5_change_X5_in : GoodIn wsX5_change wsX5_in := goodIn_r _ [10] (by decide +kernel) (by decide +kernel)
set_option maxRecDepth 20000 in
theorem gX5_change_X5_in : GoodIn wsX5_change (va_wsS RX5 69 yX5_in wsX5_in) := goodIn_app (goodIn_of _ (by decide +kernel)) ggX5_change_X5_in
set_option maxRecDepth 20000 in
theorem ggX5_change_X5_goes : GoodIn wsX5_change wsX5_goes := goodIn_r _ [14, 15, 16, 17, 18, 19, 20, 21, 22, 23, 24, 25, 26, 27, 28, 29, 30, 31, 32, 33, 34, 35, 36] (by decide +kernel) (by decide +kernel)
set_option maxRecDepth 20000 in
theorem gX5_change_X5_goes : GoodIn wsX5_change (wsV RX5 80 RX5 yX5_goes wsX5_goes) := goodIn_app (goodIn_of _ (by decide +kernel)) ggX5_change_X5_goes
set_option maxRecDepth 20000 in
theorem ggX5_pass_X5_in : GoodIn wsX5_pass wsX5_in := goodIn_r _ [5] (by decide +kernel) (by decide +kernel)
set_option maxRecDepth 20000 in
theorem gX5_pass_X5_in : GoodIn wsX5_pass (va_wsS RX5 69 yX5_in wsX5_in) := goodIn_app (goodIn_of _ (by decide +kernel)) ggX5_pass_X5_in
set_option maxRecDepth 20000 in
theorem ggX5_pass_X5_goes : GoodIn wsX5_pass wsX5_goes := goodIn_r _ [9, 10, 11, 12, 13, 14, 15, 16, 17, 18, 19, 20, 21, 22, 23, 24, 25, 26, 27, 28, 29, 30, 31] (by decide +kernel) (by decide +kernel)
set_option maxRecDepth 20000 in
theorem gX5_pass_X5_goes : GoodIn wsX5_pass (wsV RX5 80 RX5 yX5_goes wsX5_goes) := goodIn_app (goodIn_of _ (by decide +kernel)) ggX5_pass_X5_goes
set_option maxRecDepth 20000 in
theorem ggX5_full_X5_goes : GoodIn wsX5_full wsX5_goes := goodIn_r _ [6, 7, 22, 23, 24, 25, 26, 27, 28, 29, 30, 31, 32, 33, 34, 35, 36, 37, 38, 39, 40, 41, 42] (by decide +kernel) (by decide +kernel)
set_option maxRecDepth 20000 in
theorem gX5_full_X5_goes : GoodIn wsX5_full (wsV RX5 80 RX5 yX5_goes wsX5_goes) := goodIn_app (goodIn_of _ (by decide +kernel)) ggX5_full_X5_goes
set_option maxRecDepth 20000 in
theorem ggX5_full_X5_makes : GoodIn wsX5_full wsX5_makes := goodIn_r _ [11, 12, 1, 13, 14, 15, 16, 17, 18, 19, 20, 21, 22, 23, 24, 25, 26, 27, 28, 29, 30, 31, 32, 33, 34, 35, 36, 37, 38, 39, 40, 41, 42] (by decide +kernel) (by decide +kernel)
set_option maxRecDepth 20000 in
theorem gX5_full_X5_makes : GoodIn wsX5_full (wsV RX5 87 RX5 yX5_makes wsX5_makes) := goodIn_app (goodIn_of _ (by decide +kernel)) ggX5_full_X5_makes
set_option maxRecDepth 20000 in
theorem ggX5_increment_X5_latest : GoodIn wsX5_increment wsX5_latest := goodIn_r _ [6, 1, 7, 26, 27, 28, 29, 30, 31, 32, 33, 34, 35, 36, 37, 38, 39, 40, 41, 42, 43, 44, 45, 46] (by decide +kernel) (by decide +kernel)
set_option maxRecDepth 20000 in
theorem gX5_increment_X5_latest : GoodIn wsX5_increment (wsV RX5 91 RX5 yX5_latest wsX5_latest) := goodIn_app (goodIn_of _ (by decide +kernel)) ggX5_increment_X5_latest
set_option maxRecDepth 20000 in
theorem ggX5_increment_X5_goes : GoodIn wsX5_increment wsX5_goes := goodIn_r _ [11, 12, 26, 27, 28, 29, 30, 31, 32, 33, 34, 35, 36, 37, 38, 39, 40, 41, 42, 43, 44, 45, 46] (by decide +kernel) (by decide +kernel)
set_option maxRecDepth 20000 in
theorem gX5_increment_X5_goes : GoodIn wsX5_increment (wsV RX5 80 RX5 yX5_goes wsX5_goes) := goodIn_app (goodIn_of _ (by decide +kernel)) ggX5_increment_X5_goes
set_option maxRecDepth 20000 in
theorem ggX5_increment_X5_makes : GoodIn wsX5_increment wsX5_makes := goodIn_r _ [16, 17, 1, 18, 19, 20, 21, 22, 23, 24, 25, 7, 26, 27, 28, 29, 30, 31, 32, 33, 34, 35, 36, 37, 38, 39, 40, 41, 42, 43, 44, 45, 46] (by decide +kernel) (by decide +kernel)
set_option maxRecDepth 20000 in
theorem gX5_increment_X5_makes : GoodIn wsX5_increment (wsV RX5 87 RX5 yX5_makes wsX5_makes) := goodIn_app (goodIn_of _ (by decide +kernel)) ggX5_increment_X5_makes
set_option maxRecDepth 20000 in
theorem ggX5_marks_X5_promises : GoodIn wsX5_marks wsX5_promises := goodIn_r _ [12, 1, 13, 14, 2, 15, 16, 17, 18, 19, 20, 21, 22, 23, 24, 25, 26, 27, 28, 29, 30, 31, 32, 33, 34, 35] (by decide +kernel) (by decide +kernel)
set_option maxRecDepth 20000 in
theorem gX5_marks_X5_promises : GoodIn wsX5_marks (wsV RX5 95 RX5 yX5_promises wsX5_promises) := goodIn_app (goodIn_of _ (by decide +kernel)) ggX5_marks_X5_promises
set_option maxRecDepth 20000 in
theorem ggX5_damage_X5_isCopy : GoodIn wsX5_damage wsX5_isCopy := goodIn_r _ [9, 3, 10, 11, 12, 8, 13, 37, 38, 39, 40, 41, 42, 43, 44, 45, 46, 47, 48, 49, 50, 51, 52, 53, 54, 55, 56, 57] (by decide +kernel) (by decide +kernel)
set_option maxRecDepth 20000 in
theorem gX5_damage_X5_isCopy : GoodIn wsX5_damage (wsV RX5 99 RX5 yX5_isCopy wsX5_isCopy) := goodIn_app (goodIn_of _ (by decide +kernel)) ggX5_damage_X5_isCopy
set_option maxRecDepth 20000 in
theorem ggX5_damage_X5_goes : GoodIn wsX5_damage wsX5_goes := goodIn_r _ [17, 18, 37, 38, 39, 40, 41, 42, 43, 44, 45, 46, 47, 48, 49, 50, 51, 52, 53, 54, 55, 56, 57] (by decide +kernel) (by decide +kernel)
set_option maxRecDepth 20000 in
theorem gX5_damage_X5_goes : GoodIn wsX5_damage (wsV RX5 80 RX5 yX5_goes wsX5_goes) := goodIn_app (goodIn_of _ (by decide +kernel)) ggX5_damage_X5_goes
set_option maxRecDepth 20000 in
theorem ggX5_damage_X5_marks : GoodIn wsX5_damage wsX5_marks := goodIn_r _ [22, 3, 4, 23, 24, 25, 26, 27, 28, 29, 30, 8, 31, 10, 32, 37, 38, 39, 40, 41, 42, 43, 44, 45, 46, 47, 48, 49, 50, 51, 52, 53, 54, 55, 56, 57] (by decide +kernel) (by decide +kernel)
set_option maxRecDepth 20000 in
theorem gX5_damage_X5_marks : GoodIn wsX5_damage (wsV RX5 102 RX5 yX5_marks wsX5_marks) := goodIn_app (goodIn_of _ (by decide +kernel)) ggX5_damage_X5_marks
set_option maxRecDepth 20000 in
theorem ggX5_damage_X5_isBroken : GoodIn wsX5_damage wsX5_isBroken := goodIn_r _ [36, 1, 27, 37, 38, 39, 40, 41, 42, 43, 44, 45, 46, 47, 48, 49, 50, 51, 52, 53, 54, 55, 56, 57] (by decide +kernel) (by decide +kernel)
set_option maxRecDepth 20000 in
theorem gX5_damage_X5_isBroken : GoodIn wsX5_damage (wsV RX5 105 RX5 yX5_isBroken wsX5_isBroken) := goodIn_app (goodIn_of _ (by decide +kernel)) ggX5_damage_X5_isBroken
set_option maxRecDepth 20000 in
theorem ggX5_drill_X5_isCopy : GoodIn wsX5_drill wsX5_isCopy := goodIn_r _ [7, 8, 9, 10, 11, 6, 12, 23, 24, 25, 26, 27, 28, 29, 30, 31, 32, 33, 34, 35, 36, 37, 38, 39, 40, 41, 42, 43] (by decide +kernel) (by decide +kernel)
set_option maxRecDepth 20000 in
theorem gX5_drill_X5_isCopy : GoodIn wsX5_drill (wsV RX5 99 RX5 yX5_isCopy wsX5_isCopy) := goodIn_app (goodIn_of _ (by decide +kernel)) ggX5_drill_X5_isCopy
set_option maxRecDepth 20000 in
theorem ggX5_drill_X5_goes : GoodIn wsX5_drill wsX5_goes := goodIn_r _ [16, 17, 23, 24, 25, 26, 27, 28, 29, 30, 31, 32, 33, 34, 35, 36, 37, 38, 39, 40, 41, 42, 43] (by decide +kernel) (by decide +kernel)
set_option maxRecDepth 20000 in
theorem gX5_drill_X5_goes : GoodIn wsX5_drill (wsV RX5 80 RX5 yX5_goes wsX5_goes) := goodIn_app (goodIn_of _ (by decide +kernel)) ggX5_drill_X5_goes
set_option maxRecDepth 20000 in
theorem ggX5_drill_X5_isBroken : GoodIn wsX5_drill wsX5_isBroken := goodIn_r _ [21, 22, 2, 23, 24, 25, 26, 27, 28, 29, 30, 31, 32, 33, 34, 35, 36, 37, 38, 39, 40, 41, 42, 43] (by decide +kernel) (by decide +kernel)
set_option maxRecDepth 20000 in
theorem gX5_drill_X5_isBroken : GoodIn wsX5_drill (wsV RX5 105 RX5 yX5_isBroken wsX5_isBroken) := goodIn_app (goodIn_of _ (by decide +kernel)) ggX5_drill_X5_isBroken
set_option maxRecDepth 20000 in
theorem ggX5_setRules_X5_in : GoodIn wsX5_setRules wsX5_in := goodIn_r _ [7] (by decide +kernel) (by decide +kernel)
set_option maxRecDepth 20000 in
theorem gX5_setRules_X5_in : GoodIn wsX5_setRules (va_wsS RX5 69 yX5_in wsX5_in) := goodIn_app (goodIn_of _ (by decide +kernel)) ggX5_setRules_X5_in
set_option maxRecDepth 20000 in
theorem ggX5_setRules_X5_goes : GoodIn wsX5_setRules wsX5_goes := goodIn_r _ [11, 12, 27, 28, 29, 30, 31, 32, 33, 34, 35, 36, 37, 38, 39, 40, 41, 42, 43, 44, 45, 46, 47] (by decide +kernel) (by decide +kernel)
set_option maxRecDepth 20000 in
theorem gX5_setRules_X5_goes : GoodIn wsX5_setRules (wsV RX5 80 RX5 yX5_goes wsX5_goes) := goodIn_app (goodIn_of _ (by decide +kernel)) ggX5_setRules_X5_goes
set_option maxRecDepth 20000 in
theorem ggX5_setRules_X5_marks : GoodIn wsX5_setRules wsX5_marks := goodIn_r _ [16, 17, 18, 19, 1, 2, 3, 20, 21, 22, 23, 6, 24, 25, 26, 27, 28, 29, 30, 31, 32, 33, 34, 35, 36, 37, 38, 39, 40, 41, 42, 43, 44, 45, 46, 47] (by decide +kernel) (by decide +kernel)
set_option maxRecDepth 20000 in
theorem gX5_setRules_X5_marks : GoodIn wsX5_setRules (wsV RX5 102 RX5 yX5_marks wsX5_marks) := goodIn_app (goodIn_of _ (by decide +kernel)) ggX5_setRules_X5_marks
set_option maxRecDepth 20000 in
theorem ggX5_thin_X5_marks : GoodIn wsX5_thin wsX5_marks := goodIn_r _ [14, 2, 15, 7, 16, 17, 18, 8, 19, 20, 21, 13, 22, 3, 5, 23, 24, 25, 26, 27, 28, 29, 30, 31, 32, 33, 34, 35, 36, 37, 38, 39, 40, 41, 42, 43] (by decide +kernel) (by decide +kernel)
set_option maxRecDepth 20000 in
theorem gX5_thin_X5_marks : GoodIn wsX5_thin (wsV RX5 102 RX5 yX5_marks wsX5_marks) := goodIn_app (goodIn_of _ (by decide +kernel)) ggX5_thin_X5_marks
set_option maxRecDepth 20000 in
theorem ggX5_dayOf_X5_isCopy : GoodIn wsX5_dayOf wsX5_isCopy := goodIn_r _ [6, 7, 8, 9, 10, 5, 11, 17, 18, 19, 20, 21, 22, 23, 24, 25, 26, 27, 28, 29, 30, 31, 32, 33, 34, 35, 36, 37] (by decide +kernel) (by decide +kernel)
set_option maxRecDepth 20000 in
theorem gX5_dayOf_X5_isCopy : GoodIn wsX5_dayOf (wsV RX5 99 RX5 yX5_isCopy wsX5_isCopy) := goodIn_app (goodIn_of _ (by decide +kernel)) ggX5_dayOf_X5_isCopy
set_option maxRecDepth 20000 in
theorem ggX5_dayOf_X5_goes : GoodIn wsX5_dayOf wsX5_goes := goodIn_r _ [15, 16, 17, 18, 19, 20, 21, 22, 23, 24, 25, 26, 27, 28, 29, 30, 31, 32, 33, 34, 35, 36, 37] (by decide +kernel) (by decide +kernel)
set_option maxRecDepth 20000 in
theorem gX5_dayOf_X5_goes : GoodIn wsX5_dayOf (wsV RX5 80 RX5 yX5_goes wsX5_goes) := goodIn_app (goodIn_of _ (by decide +kernel)) ggX5_dayOf_X5_goes
set_option maxRecDepth 20000 in
theorem ggX5_baseOf_X5_isCopy : GoodIn wsX5_baseOf wsX5_isCopy := goodIn_r _ [6, 7, 8, 9, 10, 5, 11, 17, 18, 19, 20, 21, 22, 23, 24, 25, 26, 27, 28, 29, 30, 31, 32, 33, 34, 35, 36, 37] (by decide +kernel) (by decide +kernel)
set_option maxRecDepth 20000 in
theorem gX5_baseOf_X5_isCopy : GoodIn wsX5_baseOf (wsV RX5 99 RX5 yX5_isCopy wsX5_isCopy) := goodIn_app (goodIn_of _ (by decide +kernel)) ggX5_baseOf_X5_isCopy
set_option maxRecDepth 20000 in
theorem ggX5_baseOf_X5_goes : GoodIn wsX5_baseOf wsX5_goes := goodIn_r _ [15, 16, 17, 18, 19, 20, 21, 22, 23, 24, 25, 26, 27, 28, 29, 30, 31, 32, 33, 34, 35, 36, 37] (by decide +kernel) (by decide +kernel)
set_option maxRecDepth 20000 in
theorem gX5_baseOf_X5_goes : GoodIn wsX5_baseOf (wsV RX5 80 RX5 yX5_goes wsX5_goes) := goodIn_app (goodIn_of _ (by decide +kernel)) ggX5_baseOf_X5_goes
set_option maxRecDepth 20000 in
theorem ggX5_keeps_X5_isCopy : GoodIn wsX5_keeps wsX5_isCopy := goodIn_r _ [6, 7, 8, 9, 10, 5, 11, 17, 18, 19, 20, 21, 22, 23, 24, 25, 26, 27, 28, 29, 30, 31, 32, 33, 34, 35, 36, 37] (by decide +kernel) (by decide +kernel)
set_option maxRecDepth 20000 in
theorem gX5_keeps_X5_isCopy : GoodIn wsX5_keeps (wsV RX5 99 RX5 yX5_isCopy wsX5_isCopy) := goodIn_app (goodIn_of _ (by decide +kernel)) ggX5_keeps_X5_isCopy
set_option maxRecDepth 20000 in
theorem ggX5_keeps_X5_goes : GoodIn wsX5_keeps wsX5_goes := goodIn_r _ [15, 16, 17, 18, 19, 20, 21, 22, 23, 24, 25, 26, 27, 28, 29, 30, 31, 32, 33, 34, 35, 36, 37] (by decide +kernel) (by decide +kernel)
set_option maxRecDepth 20000 in
theorem gX5_keeps_X5_goes : GoodIn wsX5_keeps (wsV RX5 80 RX5 yX5_goes wsX5_goes) := goodIn_app (goodIn_of _ (by decide +kernel)) ggX5_keeps_X5_goes
set_option maxRecDepth 20000 in
theorem ggX5_isPromised_X5_marks : GoodIn wsX5_isPromised wsX5_marks := goodIn_r _ [6, 7, 1, 8, 9, 10, 11, 12, 13, 14, 15, 5, 16, 17, 18, 31, 32, 33, 34, 35, 36, 37, 38, 39, 40, 41, 42, 43, 44, 45, 46, 47, 48, 49, 50, 51] (by decide +kernel) (by decide +kernel)
set_option maxRecDepth 20000 in
theorem gX5_isPromised_X5_marks : GoodIn wsX5_isPromised (wsV RX5 102 RX5 yX5_marks wsX5_marks) := goodIn_app (goodIn_of _ (by decide +kernel)) ggX5_isPromised_X5_marks
set_option maxRecDepth 20000 in
theorem ggX5_isPromised_X5_isCopy : GoodIn wsX5_isPromised wsX5_isCopy := goodIn_r _ [22, 7, 17, 23, 24, 5, 25, 31, 32, 33, 34, 35, 36, 37, 38, 39, 40, 41, 42, 43, 44, 45, 46, 47, 48, 49, 50, 51] (by decide +kernel) (by decide +kernel)
set_option maxRecDepth 20000 in
theorem gX5_isPromised_X5_isCopy : GoodIn wsX5_isPromised (wsV RX5 99 RX5 yX5_isCopy wsX5_isCopy) := goodIn_app (goodIn_of _ (by decide +kernel)) ggX5_isPromised_X5_isCopy
set_option maxRecDepth 20000 in
theorem ggX5_isPromised_X5_goes : GoodIn wsX5_isPromised wsX5_goes := goodIn_r _ [29, 30, 31, 32, 33, 34, 35, 36, 37, 38, 39, 40, 41, 42, 43, 44, 45, 46, 47, 48, 49, 50, 51] (by decide +kernel) (by decide +kernel)
set_option maxRecDepth 20000 in
theorem gX5_isPromised_X5_goes : GoodIn wsX5_isPromised (wsV RX5 80 RX5 yX5_goes wsX5_goes) := goodIn_app (goodIn_of _ (by decide +kernel)) ggX5_isPromised_X5_goes
set_option maxRecDepth 20000 in
theorem ggX5_isNeeded_X5_marks : GoodIn wsX5_isNeeded wsX5_marks := goodIn_r _ [6, 7, 8, 1, 9, 10, 11, 12, 13, 14, 15, 5, 16, 17, 18, 31, 32, 33, 34, 35, 36, 37, 38, 39, 40, 41, 42, 43, 44, 45, 46, 47, 48, 49, 50, 51] (by decide +kernel) (by decide +kernel)
set_option maxRecDepth 20000 in
theorem gX5_isNeeded_X5_marks : GoodIn wsX5_isNeeded (wsV RX5 102 RX5 yX5_marks wsX5_marks) := goodIn_app (goodIn_of _ (by decide +kernel)) ggX5_isNeeded_X5_marks
set_option maxRecDepth 20000 in
theorem ggX5_isNeeded_X5_isCopy : GoodIn wsX5_isNeeded wsX5_isCopy := goodIn_r _ [22, 7, 17, 23, 24, 5, 25, 31, 32, 33, 34, 35, 36, 37, 38, 39, 40, 41, 42, 43, 44, 45, 46, 47, 48, 49, 50, 51] (by decide +kernel) (by decide +kernel)
set_option maxRecDepth 20000 in
theorem gX5_isNeeded_X5_isCopy : GoodIn wsX5_isNeeded (wsV RX5 99 RX5 yX5_isCopy wsX5_isCopy) := goodIn_app (goodIn_of _ (by decide +kernel)) ggX5_isNeeded_X5_isCopy
set_option maxRecDepth 20000 in
theorem ggX5_isNeeded_X5_goes : GoodIn wsX5_isNeeded wsX5_goes := goodIn_r _ [29, 30, 31, 32, 33, 34, 35, 36, 37, 38, 39, 40, 41, 42, 43, 44, 45, 46, 47, 48, 49, 50, 51] (by decide +kernel) (by decide +kernel)
set_option maxRecDepth 20000 in
theorem gX5_isNeeded_X5_goes : GoodIn wsX5_isNeeded (wsV RX5 80 RX5 yX5_goes wsX5_goes) := goodIn_app (goodIn_of _ (by decide +kernel)) ggX5_isNeeded_X5_goes
set_option maxRecDepth 20000 in
theorem ggX5_isProved_X5_isCopy : GoodIn wsX5_isProved wsX5_isCopy := goodIn_r _ [6, 7, 8, 9, 10, 5, 11, 17, 18, 19, 20, 21, 22, 23, 24, 25, 26, 27, 28, 29, 30, 31, 32, 33, 34, 35, 36, 37] (by decide +kernel) (by decide +kernel)
set_option maxRecDepth 20000 in
theorem gX5_isProved_X5_isCopy : GoodIn wsX5_isProved (wsV RX5 99 RX5 yX5_isCopy wsX5_isCopy) := goodIn_app (goodIn_of _ (by decide +kernel)) ggX5_isProved_X5_isCopy
set_option maxRecDepth 20000 in
theorem ggX5_isProved_X5_goes : GoodIn wsX5_isProved wsX5_goes := goodIn_r _ [15, 16, 17, 18, 19, 20, 21, 22, 23, 24, 25, 26, 27, 28, 29, 30, 31, 32, 33, 34, 35, 36, 37] (by decide +kernel) (by decide +kernel)
set_option maxRecDepth 20000 in
theorem gX5_isProved_X5_goes : GoodIn wsX5_isProved (wsV RX5 80 RX5 yX5_goes wsX5_goes) := goodIn_app (goodIn_of _ (by decide +kernel)) ggX5_isProved_X5_goes
set_option maxRecDepth 20000 in
theorem ggX5_restore_X5_isCopy : GoodIn wsX5_restore wsX5_isCopy := goodIn_r _ [7, 8, 9, 10, 11, 6, 12, 21, 22, 23, 24, 25, 26, 27, 28, 29, 30, 31, 32, 33, 34, 35, 36, 37, 38, 39, 40, 41] (by decide +kernel) (by decide +kernel)
set_option maxRecDepth 20000 in
theorem gX5_restore_X5_isCopy : GoodIn wsX5_restore (wsV RX5 99 RX5 yX5_isCopy wsX5_isCopy) := goodIn_app (goodIn_of _ (by decide +kernel)) ggX5_restore_X5_isCopy
set_option maxRecDepth 20000 in
theorem ggX5_restore_X5_isFile : GoodIn wsX5_restore wsX5_isFile := goodIn_r _ [15, 10, 11, 6, 12] (by decide +kernel) (by decide +kernel)
set_option maxRecDepth 20000 in
theorem gX5_restore_X5_isFile : GoodIn wsX5_restore (va_wsS RX5 73 yX5_isFile wsX5_isFile) := goodIn_app (goodIn_of _ (by decide +kernel)) ggX5_restore_X5_isFile
set_option maxRecDepth 20000 in
theorem ggX5_restore_X5_goes : GoodIn wsX5_restore wsX5_goes := goodIn_r _ [19, 20, 21, 22, 23, 24, 25, 26, 27, 28, 29, 30, 31, 32, 33, 34, 35, 36, 37, 38, 39, 40, 41] (by decide +kernel) (by decide +kernel)
set_option maxRecDepth 20000 in
theorem gX5_restore_X5_goes : GoodIn wsX5_restore (wsV RX5 80 RX5 yX5_goes wsX5_goes) := goodIn_app (goodIn_of _ (by decide +kernel)) ggX5_restore_X5_goes
set_option maxRecDepth 20000 in
theorem ggX5_restoreByChanges_X5_restore : GoodIn wsX5_restoreByChanges wsX5_restore := goodIn_r _ [5, 6, 7, 8, 9, 10, 4, 11, 12, 13, 14, 15, 16, 17, 18, 19, 20, 21, 22, 23, 24, 25, 26, 27, 28, 29, 30, 31, 32, 33, 34, 35, 36, 37, 38, 39, 40, 41, 42, 43, 44, 45] (by decide +kernel) (by decide +kernel)
set_option maxRecDepth 20000 in
theorem gX5_restoreByChanges_X5_restore : GoodIn wsX5_restoreByChanges (wsV RX5 108 RX5 yX5_restore wsX5_restore) := goodIn_app (goodIn_of _ (by decide +kernel)) ggX5_restoreByChanges_X5_restore
set_option maxRecDepth 20000 in
theorem ggX5_isDay_X5_in : GoodIn wsX5_isDay wsX5_in := goodIn_r _ [4] (by decide +kernel) (by decide +kernel)
set_option maxRecDepth 20000 in
theorem gX5_isDay_X5_in : GoodIn wsX5_isDay (va_wsS RX5 69 yX5_in wsX5_in) := goodIn_app (goodIn_of _ (by decide +kernel)) ggX5_isDay_X5_in
set_option maxRecDepth 20000 in
theorem ggX5_onCall_X5_isDay : GoodIn wsX5_onCall wsX5_isDay := goodIn_r _ [5, 6, 7, 4, 8] (by decide +kernel) (by decide +kernel)
set_option maxRecDepth 20000 in
theorem gX5_onCall_X5_isDay : GoodIn wsX5_onCall (va_wsS RX5 112 yX5_isDay wsX5_isDay) := goodIn_app (goodIn_of _ (by decide +kernel)) ggX5_onCall_X5_isDay
set_option maxRecDepth 20000 in
theorem ggX5_onCall_X5_goes : GoodIn wsX5_onCall wsX5_goes := goodIn_r _ [12, 13, 14, 15, 16, 17, 18, 19, 20, 21, 22, 23, 24, 25, 26, 27, 28, 29, 30, 31, 32, 33, 34] (by decide +kernel) (by decide +kernel)
set_option maxRecDepth 20000 in
theorem gX5_onCall_X5_goes : GoodIn wsX5_onCall (wsV RX5 80 RX5 yX5_goes wsX5_goes) := goodIn_app (goodIn_of _ (by decide +kernel)) ggX5_onCall_X5_goes
set_option maxRecDepth 20000 in
theorem ggX5_swap_X5_in : GoodIn wsX5_swap wsX5_in := goodIn_r _ [6] (by decide +kernel) (by decide +kernel)
set_option maxRecDepth 20000 in
theorem gX5_swap_X5_in : GoodIn wsX5_swap (va_wsS RX5 69 yX5_in wsX5_in) := goodIn_app (goodIn_of _ (by decide +kernel)) ggX5_swap_X5_in
set_option maxRecDepth 20000 in
theorem ggX5_swap_X5_exchanges : GoodIn wsX5_swap wsX5_exchanges := goodIn_r _ [10, 2, 20, 21, 22, 23, 24, 25, 26, 27, 28, 29, 30, 31, 32, 33, 34, 35, 36, 37, 38, 39, 40] (by decide +kernel) (by decide +kernel)
set_option maxRecDepth 20000 in
theorem gX5_swap_X5_exchanges : GoodIn wsX5_swap (wsV RX5 115 RX5 yX5_exchanges wsX5_exchanges) := goodIn_app (goodIn_of _ (by decide +kernel)) ggX5_swap_X5_exchanges
set_option maxRecDepth 20000 in
theorem ggX5_swap_X5_isTwice : GoodIn wsX5_swap wsX5_isTwice := goodIn_r _ [14, 2, 20, 21, 22, 23, 24, 25, 26, 27, 28, 29, 30, 31, 32, 33, 34, 35, 36, 37, 38, 39, 40] (by decide +kernel) (by decide +kernel)
set_option maxRecDepth 20000 in
theorem gX5_swap_X5_isTwice : GoodIn wsX5_swap (wsV RX5 118 RX5 yX5_isTwice wsX5_isTwice) := goodIn_app (goodIn_of _ (by decide +kernel)) ggX5_swap_X5_isTwice
set_option maxRecDepth 20000 in
theorem ggX5_swap_X5_goes : GoodIn wsX5_swap wsX5_goes := goodIn_r _ [18, 19, 20, 21, 22, 23, 24, 25, 26, 27, 28, 29, 30, 31, 32, 33, 34, 35, 36, 37, 38, 39, 40] (by decide +kernel) (by decide +kernel)
set_option maxRecDepth 20000 in
theorem gX5_swap_X5_goes : GoodIn wsX5_swap (wsV RX5 80 RX5 yX5_goes wsX5_goes) := goodIn_app (goodIn_of _ (by decide +kernel)) ggX5_swap_X5_goes
set_option maxRecDepth 20000 in
theorem ggX5_alarm_X5_in : GoodIn wsX5_alarm wsX5_in := goodIn_r _ [6] (by decide +kernel) (by decide +kernel)
set_option maxRecDepth 20000 in
theorem gX5_alarm_X5_in : GoodIn wsX5_alarm (va_wsS RX5 69 yX5_in wsX5_in) := goodIn_app (goodIn_of _ (by decide +kernel)) ggX5_alarm_X5_in
set_option maxRecDepth 20000 in
theorem ggX5_alarm_X5_goes : GoodIn wsX5_alarm wsX5_goes := goodIn_r _ [10, 11, 12, 13, 14, 15, 16, 17, 18, 19, 20, 21, 22, 23, 24, 25, 26, 27, 28, 29, 30, 31, 32] (by decide +kernel) (by decide +kernel)
set_option maxRecDepth 20000 in
theorem gX5_alarm_X5_goes : GoodIn wsX5_alarm (wsV RX5 80 RX5 yX5_goes wsX5_goes) := goodIn_app (goodIn_of _ (by decide +kernel)) ggX5_alarm_X5_goes
theorem dJ9_max_7cf53_0 : decode cJ9_max_7cf53 0 = .ok (.iload_n 0, 1) := by decide +kernel
theorem dJ9_max_7cf53_1 : decode cJ9_max_7cf53 1 = .ok (.iload_n 1, 1) := by decide +kernel
theorem dJ9_max_7cf53_2 : decode cJ9_max_7cf53 2 = .ok (.if_icmp .lt 7, 3) := by decide +kernel
theorem dJ9_max_7cf53_5 : decode cJ9_max_7cf53 5 = .ok (.iload_n 0, 1) := by decide +kernel
theorem dJ9_max_7cf53_6 : decode cJ9_max_7cf53 6 = .ok (.goto 4, 3) := by decide +kernel
theorem dJ9_max_7cf53_9 : decode cJ9_max_7cf53 9 = .ok (.iload_n 1, 1) := by decide +kernel
theorem dJ9_max_7cf53_10 : decode cJ9_max_7cf53 10 = .ok (.ireturn, 1) := by decide +kernel
abbrev vwCl : List vw_C := [(RX0, TX0, 11), (RX1, TX1, 4), (RX2, TX2, 1), (RX3, TX3, 5), (RX4, TX4, 4), (RX5, TX5, 21)]
end
section
theorem dX0_init_0 : decode cX0_init 0 = .ok (.aload_n 0, 1) := by decide +kernel
theorem dX0_init_1 : decode cX0_init 1 = .ok (.invokespecial 3, 3) := by decide +kernel
theorem dX0_init_4 : decode cX0_init 4 = .ok (.aload_n 0, 1) := by decide +kernel
theorem dX0_init_5 : decode cX0_init 5 = .ok (.bipush 10, 2) := by decide +kernel
theorem dX0_init_7 : decode cX0_init 7 = .ok (.newarray .int, 2) := by decide +kernel
theorem dX0_init_9 : decode cX0_init 9 = .ok (.putfield 9, 3) := by decide +kernel
theorem dX0_init_12 : decode cX0_init 12 = .ok (.aload_n 0, 1) := by decide +kernel
theorem dX0_init_13 : decode cX0_init 13 = .ok (.iload_n 1, 1) := by decide +kernel
theorem dX0_init_14 : decode cX0_init 14 = .ok (.putfield 15, 3) := by decide +kernel
theorem dX0_init_17 : decode cX0_init 17 = .ok (.aload_n 0, 1) := by decide +kernel
theorem dX0_init_18 : decode cX0_init 18 = .ok (.iload_n 2, 1) := by decide +kernel
theorem dX0_init_19 : decode cX0_init 19 = .ok (.putfield 19, 3) := by decide +kernel
theorem dX0_init_22 : decode cX0_init 22 = .ok (.aload_n 0, 1) := by decide +kernel
theorem dX0_init_23 : decode cX0_init 23 = .ok (.aload_n 3, 1) := by decide +kernel
theorem dX0_init_24 : decode cX0_init 24 = .ok (.putfield 22, 3) := by decide +kernel
theorem dX0_init_27 : decode cX0_init 27 = .ok (.aload_n 0, 1) := by decide +kernel
theorem dX0_init_28 : decode cX0_init 28 = .ok (.iload 4, 2) := by decide +kernel
theorem dX0_init_30 : decode cX0_init 30 = .ok (.putfield 26, 3) := by decide +kernel
theorem dX0_init_33 : decode cX0_init 33 = .ok (.iconst 0, 1) := by decide +kernel
theorem dX0_init_34 : decode cX0_init 34 = .ok (.istore 5, 2) := by decide +kernel
theorem dX0_init_36 : decode cX0_init 36 = .ok (.iload 5, 2) := by decide +kernel
theorem dX0_init_38 : decode cX0_init 38 = .ok (.aload_n 0, 1) := by decide +kernel
theorem dX0_init_39 : decode cX0_init 39 = .ok (.getfield 9, 3) := by decide +kernel
theorem dX0_init_42 : decode cX0_init 42 = .ok (.arraylength, 1) := by decide +kernel
theorem dX0_init_43 : decode cX0_init 43 = .ok (.if_icmp .ge 17, 3) := by decide +kernel
theorem dX0_init_46 : decode cX0_init 46 = .ok (.aload_n 0, 1) := by decide +kernel
theorem dX0_init_47 : decode cX0_init 47 = .ok (.getfield 9, 3) := by decide +kernel
theorem dX0_init_50 : decode cX0_init 50 = .ok (.iload 5, 2) := by decide +kernel
theorem dX0_init_52 : decode cX0_init 52 = .ok (.iconst (-1), 1) := by decide +kernel
theorem dX0_init_53 : decode cX0_init 53 = .ok (.iastore, 1) := by decide +kernel
theorem dX0_init_54 : decode cX0_init 54 = .ok (.iinc 5 1, 3) := by decide +kernel
theorem dX0_init_57 : decode cX0_init 57 = .ok (.goto (-21), 3) := by decide +kernel
theorem dX0_init_60 : decode cX0_init 60 = .ok (.return_, 1) := by decide +kernel
theorem dX0_keep_0 : decode cX0_keep 0 = .ok (.iload_n 1, 1) := by decide +kernel
theorem dX0_keep_1 : decode cX0_keep 1 = .ok (.ifCond .lt 12, 3) := by decide +kernel
theorem dX0_keep_4 : decode cX0_keep 4 = .ok (.iload_n 1, 1) := by decide +kernel
theorem dX0_keep_5 : decode cX0_keep 5 = .ok (.aload_n 0, 1) := by decide +kernel
theorem dX0_keep_6 : decode cX0_keep 6 = .ok (.getfield 9, 3) := by decide +kernel
theorem dX0_keep_9 : decode cX0_keep 9 = .ok (.arraylength, 1) := by decide +kernel
theorem dX0_keep_10 : decode cX0_keep 10 = .ok (.if_icmp .lt 4, 3) := by decide +kernel
theorem dX0_keep_13 : decode cX0_keep 13 = .ok (.return_, 1) := by decide +kernel
theorem dX0_keep_14 : decode cX0_keep 14 = .ok (.aload_n 0, 1) := by decide +kernel
theorem dX0_keep_15 : decode cX0_keep 15 = .ok (.getfield 9, 3) := by decide +kernel
theorem dX0_keep_18 : decode cX0_keep 18 = .ok (.iload_n 1, 1) := by decide +kernel
theorem dX0_keep_19 : decode cX0_keep 19 = .ok (.iaload, 1) := by decide +kernel
theorem dX0_keep_20 : decode cX0_keep 20 = .ok (.iconst (-1), 1) := by decide +kernel
theorem dX0_keep_21 : decode cX0_keep 21 = .ok (.if_icmp .ne 13, 3) := by decide +kernel
theorem dX0_keep_24 : decode cX0_keep 24 = .ok (.aload_n 0, 1) := by decide +kernel
theorem dX0_keep_25 : decode cX0_keep 25 = .ok (.dup, 1) := by decide +kernel
theorem dX0_keep_26 : decode cX0_keep 26 = .ok (.getfield 29, 3) := by decide +kernel
theorem dX0_keep_29 : decode cX0_keep 29 = .ok (.iconst 1, 1) := by decide +kernel
theorem dX0_keep_30 : decode cX0_keep 30 = .ok (.iadd, 1) := by decide +kernel
theorem dX0_keep_31 : decode cX0_keep 31 = .ok (.putfield 29, 3) := by decide +kernel
theorem dX0_keep_34 : decode cX0_keep 34 = .ok (.aload_n 0, 1) := by decide +kernel
theorem dX0_keep_35 : decode cX0_keep 35 = .ok (.getfield 9, 3) := by decide +kernel
theorem dX0_keep_38 : decode cX0_keep 38 = .ok (.iload_n 1, 1) := by decide +kernel
theorem dX0_keep_39 : decode cX0_keep 39 = .ok (.iload_n 2, 1) := by decide +kernel
theorem dX0_keep_40 : decode cX0_keep 40 = .ok (.iastore, 1) := by decide +kernel
theorem dX0_keep_41 : decode cX0_keep 41 = .ok (.return_, 1) := by decide +kernel
theorem dX0_spaceTaken_0 : decode cX0_spaceTaken 0 = .ok (.aload_n 0, 1) := by decide +kernel
theorem dX0_spaceTaken_1 : decode cX0_spaceTaken 1 = .ok (.getfield 29, 3) := by decide +kernel
theorem dX0_spaceTaken_4 : decode cX0_spaceTaken 4 = .ok (.iconst 1, 1) := by decide +kernel
theorem dX0_spaceTaken_5 : decode cX0_spaceTaken 5 = .ok (.iadd, 1) := by decide +kernel
theorem dX0_spaceTaken_6 : decode cX0_spaceTaken 6 = .ok (.ireturn, 1) := by decide +kernel
theorem dX0_periodOf_0 : decode cX0_periodOf 0 = .ok (.iload_n 1, 1) := by decide +kernel
theorem dX0_periodOf_1 : decode cX0_periodOf 1 = .ok (.lookupswitch 43 #[(1, 27), (2, 35)], 27) := by decide +kernel
theorem dX0_periodOf_28 : decode cX0_periodOf 28 = .ok (.aload_n 0, 1) := by decide +kernel
theorem dX0_periodOf_29 : decode cX0_periodOf 29 = .ok (.getfield 19, 3) := by decide +kernel
theorem dX0_periodOf_32 : decode cX0_periodOf 32 = .ok (.bipush 7, 2) := by decide +kernel
theorem dX0_periodOf_34 : decode cX0_periodOf 34 = .ok (.idiv, 1) := by decide +kernel
theorem dX0_periodOf_35 : decode cX0_periodOf 35 = .ok (.ireturn, 1) := by decide +kernel
theorem dX0_periodOf_36 : decode cX0_periodOf 36 = .ok (.aload_n 0, 1) := by decide +kernel
theorem dX0_periodOf_37 : decode cX0_periodOf 37 = .ok (.getfield 19, 3) := by decide +kernel
theorem dX0_periodOf_40 : decode cX0_periodOf 40 = .ok (.bipush 28, 2) := by decide +kernel
theorem dX0_periodOf_42 : decode cX0_periodOf 42 = .ok (.idiv, 1) := by decide +kernel
theorem dX0_periodOf_43 : decode cX0_periodOf 43 = .ok (.ireturn, 1) := by decide +kernel
theorem dX0_periodOf_44 : decode cX0_periodOf 44 = .ok (.aload_n 0, 1) := by decide +kernel
theorem dX0_periodOf_45 : decode cX0_periodOf 45 = .ok (.getfield 19, 3) := by decide +kernel
theorem dX0_periodOf_48 : decode cX0_periodOf 48 = .ok (.ireturn, 1) := by decide +kernel
theorem dX0_contentByChain_0 : decode cX0_contentByChain 0 = .ok (.iload_n 1, 1) := by decide +kernel
theorem dX0_contentByChain_1 : decode cX0_contentByChain 1 = .ok (.ifCond .lt 9, 3) := by decide +kernel
theorem dX0_contentByChain_4 : decode cX0_contentByChain 4 = .ok (.iload_n 1, 1) := by decide +kernel
theorem dX0_contentByChain_5 : decode cX0_contentByChain 5 = .ok (.bipush 10, 2) := by decide +kernel
theorem dX0_contentByChain_7 : decode cX0_contentByChain 7 = .ok (.if_icmp .lt 5, 3) := by decide +kernel
theorem dX0_contentByChain_10 : decode cX0_contentByChain 10 = .ok (.iconst (-1), 1) := by decide +kernel
theorem dX0_contentByChain_11 : decode cX0_contentByChain 11 = .ok (.ireturn, 1) := by decide +kernel
theorem dX0_contentByChain_12 : decode cX0_contentByChain 12 = .ok (.aload_n 0, 1) := by decide +kernel
theorem dX0_contentByChain_13 : decode cX0_contentByChain 13 = .ok (.astore_n 2, 1) := by decide +kernel
theorem dX0_contentByChain_14 : decode cX0_contentByChain 14 = .ok (.aload_n 2, 1) := by decide +kernel
theorem dX0_contentByChain_15 : decode cX0_contentByChain 15 = .ok (.ifnull 37, 3) := by decide +kernel
theorem dX0_contentByChain_18 : decode cX0_contentByChain 18 = .ok (.iload_n 1, 1) := by decide +kernel
theorem dX0_contentByChain_19 : decode cX0_contentByChain 19 = .ok (.aload_n 2, 1) := by decide +kernel
theorem dX0_contentByChain_20 : decode cX0_contentByChain 20 = .ok (.getfield 9, 3) := by decide +kernel
theorem dX0_contentByChain_23 : decode cX0_contentByChain 23 = .ok (.arraylength, 1) := by decide +kernel
theorem dX0_contentByChain_24 : decode cX0_contentByChain 24 = .ok (.if_icmp .ge 20, 3) := by decide +kernel
theorem dX0_contentByChain_27 : decode cX0_contentByChain 27 = .ok (.aload_n 2, 1) := by decide +kernel
theorem dX0_contentByChain_28 : decode cX0_contentByChain 28 = .ok (.getfield 9, 3) := by decide +kernel
theorem dX0_contentByChain_31 : decode cX0_contentByChain 31 = .ok (.iload_n 1, 1) := by decide +kernel
theorem dX0_contentByChain_32 : decode cX0_contentByChain 32 = .ok (.iaload, 1) := by decide +kernel
theorem dX0_contentByChain_33 : decode cX0_contentByChain 33 = .ok (.iconst (-1), 1) := by decide +kernel
theorem dX0_contentByChain_34 : decode cX0_contentByChain 34 = .ok (.if_icmp .eq 10, 3) := by decide +kernel
theorem dX0_contentByChain_37 : decode cX0_contentByChain 37 = .ok (.aload_n 2, 1) := by decide +kernel
theorem dX0_contentByChain_38 : decode cX0_contentByChain 38 = .ok (.getfield 9, 3) := by decide +kernel
theorem dX0_contentByChain_41 : decode cX0_contentByChain 41 = .ok (.iload_n 1, 1) := by decide +kernel
theorem dX0_contentByChain_42 : decode cX0_contentByChain 42 = .ok (.iaload, 1) := by decide +kernel
theorem dX0_contentByChain_43 : decode cX0_contentByChain 43 = .ok (.ireturn, 1) := by decide +kernel
theorem dX0_contentByChain_44 : decode cX0_contentByChain 44 = .ok (.aload_n 2, 1) := by decide +kernel
theorem dX0_contentByChain_45 : decode cX0_contentByChain 45 = .ok (.getfield 22, 3) := by decide +kernel
theorem dX0_contentByChain_48 : decode cX0_contentByChain 48 = .ok (.astore_n 2, 1) := by decide +kernel
theorem dX0_contentByChain_49 : decode cX0_contentByChain 49 = .ok (.goto (-35), 3) := by decide +kernel
theorem dX0_contentByChain_52 : decode cX0_contentByChain 52 = .ok (.iconst (-1), 1) := by decide +kernel
theorem dX0_contentByChain_53 : decode cX0_contentByChain 53 = .ok (.ireturn, 1) := by decide +kernel
theorem dX0_hasDamagedChain_0 : decode cX0_hasDamagedChain 0 = .ok (.aload_n 0, 1) := by decide +kernel
theorem dX0_hasDamagedChain_1 : decode cX0_hasDamagedChain 1 = .ok (.astore_n 1, 1) := by decide +kernel
theorem dX0_hasDamagedChain_2 : decode cX0_hasDamagedChain 2 = .ok (.aload_n 1, 1) := by decide +kernel
theorem dX0_hasDamagedChain_3 : decode cX0_hasDamagedChain 3 = .ok (.ifnull 20, 3) := by decide +kernel
theorem dX0_hasDamagedChain_6 : decode cX0_hasDamagedChain 6 = .ok (.aload_n 1, 1) := by decide +kernel
theorem dX0_hasDamagedChain_7 : decode cX0_hasDamagedChain 7 = .ok (.getfield 32, 3) := by decide +kernel
theorem dX0_hasDamagedChain_10 : decode cX0_hasDamagedChain 10 = .ok (.ifCond .eq 5, 3) := by decide +kernel
theorem dX0_hasDamagedChain_13 : decode cX0_hasDamagedChain 13 = .ok (.iconst 1, 1) := by decide +kernel
theorem dX0_hasDamagedChain_14 : decode cX0_hasDamagedChain 14 = .ok (.ireturn, 1) := by decide +kernel
theorem dX0_hasDamagedChain_15 : decode cX0_hasDamagedChain 15 = .ok (.aload_n 1, 1) := by decide +kernel
theorem dX0_hasDamagedChain_16 : decode cX0_hasDamagedChain 16 = .ok (.getfield 22, 3) := by decide +kernel
theorem dX0_hasDamagedChain_19 : decode cX0_hasDamagedChain 19 = .ok (.astore_n 1, 1) := by decide +kernel
theorem dX0_hasDamagedChain_20 : decode cX0_hasDamagedChain 20 = .ok (.goto (-18), 3) := by decide +kernel
theorem dX0_hasDamagedChain_23 : decode cX0_hasDamagedChain 23 = .ok (.iconst 0, 1) := by decide +kernel
theorem dX0_hasDamagedChain_24 : decode cX0_hasDamagedChain 24 = .ok (.ireturn, 1) := by decide +kernel
theorem dX0_proveChain_0 : decode cX0_proveChain 0 = .ok (.aload_n 0, 1) := by decide +kernel
theorem dX0_proveChain_1 : decode cX0_proveChain 1 = .ok (.astore_n 2, 1) := by decide +kernel
theorem dX0_proveChain_2 : decode cX0_proveChain 2 = .ok (.aload_n 2, 1) := by decide +kernel
theorem dX0_proveChain_3 : decode cX0_proveChain 3 = .ok (.ifnull 16, 3) := by decide +kernel
theorem dX0_proveChain_6 : decode cX0_proveChain 6 = .ok (.aload_n 2, 1) := by decide +kernel
theorem dX0_proveChain_7 : decode cX0_proveChain 7 = .ok (.iload_n 1, 1) := by decide +kernel
theorem dX0_proveChain_8 : decode cX0_proveChain 8 = .ok (.putfield 36, 3) := by decide +kernel
theorem dX0_proveChain_11 : decode cX0_proveChain 11 = .ok (.aload_n 2, 1) := by decide +kernel
theorem dX0_proveChain_12 : decode cX0_proveChain 12 = .ok (.getfield 22, 3) := by decide +kernel
theorem dX0_proveChain_15 : decode cX0_proveChain 15 = .ok (.astore_n 2, 1) := by decide +kernel
theorem dX0_proveChain_16 : decode cX0_proveChain 16 = .ok (.goto (-14), 3) := by decide +kernel
theorem dX0_proveChain_19 : decode cX0_proveChain 19 = .ok (.return_, 1) := by decide +kernel
theorem dX0_chainLength_0 : decode cX0_chainLength 0 = .ok (.iconst 0, 1) := by decide +kernel
theorem dX0_chainLength_1 : decode cX0_chainLength 1 = .ok (.istore_n 1, 1) := by decide +kernel
theorem dX0_chainLength_2 : decode cX0_chainLength 2 = .ok (.aload_n 0, 1) := by decide +kernel
theorem dX0_chainLength_3 : decode cX0_chainLength 3 = .ok (.astore_n 2, 1) := by decide +kernel
theorem dX0_chainLength_4 : decode cX0_chainLength 4 = .ok (.aload_n 2, 1) := by decide +kernel
theorem dX0_chainLength_5 : decode cX0_chainLength 5 = .ok (.ifnull 14, 3) := by decide +kernel
theorem dX0_chainLength_8 : decode cX0_chainLength 8 = .ok (.iinc 1 1, 3) := by decide +kernel
theorem dX0_chainLength_11 : decode cX0_chainLength 11 = .ok (.aload_n 2, 1) := by decide +kernel
theorem dX0_chainLength_12 : decode cX0_chainLength 12 = .ok (.getfield 22, 3) := by decide +kernel
theorem dX0_chainLength_15 : decode cX0_chainLength 15 = .ok (.astore_n 2, 1) := by decide +kernel
theorem dX0_chainLength_16 : decode cX0_chainLength 16 = .ok (.goto (-12), 3) := by decide +kernel
theorem dX0_chainLength_19 : decode cX0_chainLength 19 = .ok (.iload_n 1, 1) := by decide +kernel
theorem dX0_chainLength_20 : decode cX0_chainLength 20 = .ok (.ireturn, 1) := by decide +kernel
theorem dX0_markChainNeeded_0 : decode cX0_markChainNeeded 0 = .ok (.aload_n 0, 1) := by decide +kernel
theorem dX0_markChainNeeded_1 : decode cX0_markChainNeeded 1 = .ok (.astore_n 1, 1) := by decide +kernel
theorem dX0_markChainNeeded_2 : decode cX0_markChainNeeded 2 = .ok (.aload_n 1, 1) := by decide +kernel
theorem dX0_markChainNeeded_3 : decode cX0_markChainNeeded 3 = .ok (.ifnull 23, 3) := by decide +kernel
theorem dX0_markChainNeeded_6 : decode cX0_markChainNeeded 6 = .ok (.aload_n 1, 1) := by decide +kernel
theorem dX0_markChainNeeded_7 : decode cX0_markChainNeeded 7 = .ok (.getfield 39, 3) := by decide +kernel
theorem dX0_markChainNeeded_10 : decode cX0_markChainNeeded 10 = .ok (.ifCond .ne 16, 3) := by decide +kernel
theorem dX0_markChainNeeded_13 : decode cX0_markChainNeeded 13 = .ok (.aload_n 1, 1) := by decide +kernel
theorem dX0_markChainNeeded_14 : decode cX0_markChainNeeded 14 = .ok (.iconst 1, 1) := by decide +kernel
theorem dX0_markChainNeeded_15 : decode cX0_markChainNeeded 15 = .ok (.putfield 39, 3) := by decide +kernel
theorem dX0_markChainNeeded_18 : decode cX0_markChainNeeded 18 = .ok (.aload_n 1, 1) := by decide +kernel
theorem dX0_markChainNeeded_19 : decode cX0_markChainNeeded 19 = .ok (.getfield 22, 3) := by decide +kernel
theorem dX0_markChainNeeded_22 : decode cX0_markChainNeeded 22 = .ok (.astore_n 1, 1) := by decide +kernel
theorem dX0_markChainNeeded_23 : decode cX0_markChainNeeded 23 = .ok (.goto (-21), 3) := by decide +kernel
theorem dX0_markChainNeeded_26 : decode cX0_markChainNeeded 26 = .ok (.return_, 1) := by decide +kernel
theorem dX1_init_0 : decode cX1_init 0 = .ok (.aload_n 0, 1) := by decide +kernel
theorem dX1_init_1 : decode cX1_init 1 = .ok (.invokespecial 3, 3) := by decide +kernel
theorem dX1_init_4 : decode cX1_init 4 = .ok (.aload_n 0, 1) := by decide +kernel
theorem dX1_init_5 : decode cX1_init 5 = .ok (.bipush 10, 2) := by decide +kernel
theorem dX1_init_7 : decode cX1_init 7 = .ok (.newarray .int, 2) := by decide +kernel
theorem dX1_init_9 : decode cX1_init 9 = .ok (.putfield 9, 3) := by decide +kernel
theorem dX1_init_12 : decode cX1_init 12 = .ok (.aload_n 0, 1) := by decide +kernel
theorem dX1_init_13 : decode cX1_init 13 = .ok (.sipush 300, 3) := by decide +kernel
theorem dX1_init_16 : decode cX1_init 16 = .ok (.newarray .int, 2) := by decide +kernel
theorem dX1_init_18 : decode cX1_init 18 = .ok (.putfield 15, 3) := by decide +kernel
theorem dX1_init_21 : decode cX1_init 21 = .ok (.aload_n 0, 1) := by decide +kernel
theorem dX1_init_22 : decode cX1_init 22 = .ok (.sipush 300, 3) := by decide +kernel
theorem dX1_init_25 : decode cX1_init 25 = .ok (.newarray .int, 2) := by decide +kernel
theorem dX1_init_27 : decode cX1_init 27 = .ok (.putfield 18, 3) := by decide +kernel
theorem dX1_init_30 : decode cX1_init 30 = .ok (.return_, 1) := by decide +kernel
theorem dX1_contentNow_0 : decode cX1_contentNow 0 = .ok (.iload_n 1, 1) := by decide +kernel
theorem dX1_contentNow_1 : decode cX1_contentNow 1 = .ok (.ifCond .lt 21, 3) := by decide +kernel
theorem dX1_contentNow_4 : decode cX1_contentNow 4 = .ok (.iload_n 1, 1) := by decide +kernel
theorem dX1_contentNow_5 : decode cX1_contentNow 5 = .ok (.aload_n 0, 1) := by decide +kernel
theorem dX1_contentNow_6 : decode cX1_contentNow 6 = .ok (.getfield 9, 3) := by decide +kernel
theorem dX1_contentNow_9 : decode cX1_contentNow 9 = .ok (.arraylength, 1) := by decide +kernel
theorem dX1_contentNow_10 : decode cX1_contentNow 10 = .ok (.if_icmp .ge 12, 3) := by decide +kernel
theorem dX1_contentNow_13 : decode cX1_contentNow 13 = .ok (.aload_n 0, 1) := by decide +kernel
theorem dX1_contentNow_14 : decode cX1_contentNow 14 = .ok (.getfield 9, 3) := by decide +kernel
theorem dX1_contentNow_17 : decode cX1_contentNow 17 = .ok (.iload_n 1, 1) := by decide +kernel
theorem dX1_contentNow_18 : decode cX1_contentNow 18 = .ok (.iaload, 1) := by decide +kernel
theorem dX1_contentNow_19 : decode cX1_contentNow 19 = .ok (.goto 4, 3) := by decide +kernel
theorem dX1_contentNow_22 : decode cX1_contentNow 22 = .ok (.iconst (-1), 1) := by decide +kernel
theorem dX1_contentNow_23 : decode cX1_contentNow 23 = .ok (.ireturn, 1) := by decide +kernel
theorem dX1_write_0 : decode cX1_write 0 = .ok (.iload_n 1, 1) := by decide +kernel
theorem dX1_write_1 : decode cX1_write 1 = .ok (.ifCond .lt 12, 3) := by decide +kernel
theorem dX1_write_4 : decode cX1_write 4 = .ok (.iload_n 1, 1) := by decide +kernel
theorem dX1_write_5 : decode cX1_write 5 = .ok (.aload_n 0, 1) := by decide +kernel
theorem dX1_write_6 : decode cX1_write 6 = .ok (.getfield 9, 3) := by decide +kernel
theorem dX1_write_9 : decode cX1_write 9 = .ok (.arraylength, 1) := by decide +kernel
theorem dX1_write_10 : decode cX1_write 10 = .ok (.if_icmp .lt 4, 3) := by decide +kernel
theorem dX1_write_13 : decode cX1_write 13 = .ok (.return_, 1) := by decide +kernel
theorem dX1_write_14 : decode cX1_write 14 = .ok (.aload_n 0, 1) := by decide +kernel
theorem dX1_write_15 : decode cX1_write 15 = .ok (.getfield 21, 3) := by decide +kernel
theorem dX1_write_18 : decode cX1_write 18 = .ok (.ifCond .lt 27, 3) := by decide +kernel
theorem dX1_write_21 : decode cX1_write 21 = .ok (.aload_n 0, 1) := by decide +kernel
theorem dX1_write_22 : decode cX1_write 22 = .ok (.getfield 21, 3) := by decide +kernel
theorem dX1_write_25 : decode cX1_write 25 = .ok (.aload_n 0, 1) := by decide +kernel
theorem dX1_write_26 : decode cX1_write 26 = .ok (.getfield 15, 3) := by decide +kernel
theorem dX1_write_29 : decode cX1_write 29 = .ok (.arraylength, 1) := by decide +kernel
theorem dX1_write_30 : decode cX1_write 30 = .ok (.if_icmp .ge 15, 3) := by decide +kernel
theorem dX1_write_33 : decode cX1_write 33 = .ok (.aload_n 0, 1) := by decide +kernel
theorem dX1_write_34 : decode cX1_write 34 = .ok (.getfield 21, 3) := by decide +kernel
theorem dX1_write_37 : decode cX1_write 37 = .ok (.aload_n 0, 1) := by decide +kernel
theorem dX1_write_38 : decode cX1_write 38 = .ok (.getfield 18, 3) := by decide +kernel
theorem dX1_write_41 : decode cX1_write 41 = .ok (.arraylength, 1) := by decide +kernel
theorem dX1_write_42 : decode cX1_write 42 = .ok (.if_icmp .lt 4, 3) := by decide +kernel
theorem dX1_write_45 : decode cX1_write 45 = .ok (.return_, 1) := by decide +kernel
theorem dX1_write_46 : decode cX1_write 46 = .ok (.aload_n 0, 1) := by decide +kernel
theorem dX1_write_47 : decode cX1_write 47 = .ok (.getfield 9, 3) := by decide +kernel
theorem dX1_write_50 : decode cX1_write 50 = .ok (.iload_n 1, 1) := by decide +kernel
theorem dX1_write_51 : decode cX1_write 51 = .ok (.iload_n 2, 1) := by decide +kernel
theorem dX1_write_52 : decode cX1_write 52 = .ok (.iastore, 1) := by decide +kernel
theorem dX1_write_53 : decode cX1_write 53 = .ok (.aload_n 0, 1) := by decide +kernel
theorem dX1_write_54 : decode cX1_write 54 = .ok (.getfield 15, 3) := by decide +kernel
theorem dX1_write_57 : decode cX1_write 57 = .ok (.aload_n 0, 1) := by decide +kernel
theorem dX1_write_58 : decode cX1_write 58 = .ok (.getfield 21, 3) := by decide +kernel
theorem dX1_write_61 : decode cX1_write 61 = .ok (.iload_n 1, 1) := by decide +kernel
theorem dX1_write_62 : decode cX1_write 62 = .ok (.iastore, 1) := by decide +kernel
theorem dX1_write_63 : decode cX1_write 63 = .ok (.aload_n 0, 1) := by decide +kernel
theorem dX1_write_64 : decode cX1_write 64 = .ok (.getfield 18, 3) := by decide +kernel
theorem dX1_write_67 : decode cX1_write 67 = .ok (.aload_n 0, 1) := by decide +kernel
theorem dX1_write_68 : decode cX1_write 68 = .ok (.getfield 21, 3) := by decide +kernel
theorem dX1_write_71 : decode cX1_write 71 = .ok (.iload_n 2, 1) := by decide +kernel
theorem dX1_write_72 : decode cX1_write 72 = .ok (.iastore, 1) := by decide +kernel
theorem dX1_write_73 : decode cX1_write 73 = .ok (.aload_n 0, 1) := by decide +kernel
theorem dX1_write_74 : decode cX1_write 74 = .ok (.dup, 1) := by decide +kernel
theorem dX1_write_75 : decode cX1_write 75 = .ok (.getfield 21, 3) := by decide +kernel
theorem dX1_write_78 : decode cX1_write 78 = .ok (.iconst 1, 1) := by decide +kernel
theorem dX1_write_79 : decode cX1_write 79 = .ok (.iadd, 1) := by decide +kernel
theorem dX1_write_80 : decode cX1_write 80 = .ok (.putfield 21, 3) := by decide +kernel
theorem dX1_write_83 : decode cX1_write 83 = .ok (.return_, 1) := by decide +kernel
theorem dX1_keepAll_0 : decode cX1_keepAll 0 = .ok (.iconst 0, 1) := by decide +kernel
theorem dX1_keepAll_1 : decode cX1_keepAll 1 = .ok (.istore_n 2, 1) := by decide +kernel
theorem dX1_keepAll_2 : decode cX1_keepAll 2 = .ok (.iload_n 2, 1) := by decide +kernel
theorem dX1_keepAll_3 : decode cX1_keepAll 3 = .ok (.aload_n 0, 1) := by decide +kernel
theorem dX1_keepAll_4 : decode cX1_keepAll 4 = .ok (.getfield 9, 3) := by decide +kernel
theorem dX1_keepAll_7 : decode cX1_keepAll 7 = .ok (.arraylength, 1) := by decide +kernel
theorem dX1_keepAll_8 : decode cX1_keepAll 8 = .ok (.if_icmp .ge 20, 3) := by decide +kernel
theorem dX1_keepAll_11 : decode cX1_keepAll 11 = .ok (.aload_n 1, 1) := by decide +kernel
theorem dX1_keepAll_12 : decode cX1_keepAll 12 = .ok (.iload_n 2, 1) := by decide +kernel
theorem dX1_keepAll_13 : decode cX1_keepAll 13 = .ok (.aload_n 0, 1) := by decide +kernel
theorem dX1_keepAll_14 : decode cX1_keepAll 14 = .ok (.getfield 9, 3) := by decide +kernel
theorem dX1_keepAll_17 : decode cX1_keepAll 17 = .ok (.iload_n 2, 1) := by decide +kernel
theorem dX1_keepAll_18 : decode cX1_keepAll 18 = .ok (.iaload, 1) := by decide +kernel
theorem dX1_keepAll_19 : decode cX1_keepAll 19 = .ok (.invokevirtual 25, 3) := by decide +kernel
theorem dX1_keepAll_22 : decode cX1_keepAll 22 = .ok (.iinc 2 1, 3) := by decide +kernel
theorem dX1_keepAll_25 : decode cX1_keepAll 25 = .ok (.goto (-23), 3) := by decide +kernel
theorem dX1_keepAll_28 : decode cX1_keepAll 28 = .ok (.return_, 1) := by decide +kernel
theorem dX1_keepChanged_0 : decode cX1_keepChanged 0 = .ok (.iload_n 2, 1) := by decide +kernel
theorem dX1_keepChanged_1 : decode cX1_keepChanged 1 = .ok (.iconst 0, 1) := by decide +kernel
theorem dX1_keepChanged_2 : decode cX1_keepChanged 2 = .ok (.invokestatic 31, 3) := by decide +kernel
theorem dX1_keepChanged_5 : decode cX1_keepChanged 5 = .ok (.istore_n 3, 1) := by decide +kernel
theorem dX1_keepChanged_6 : decode cX1_keepChanged 6 = .ok (.iload_n 3, 1) := by decide +kernel
theorem dX1_keepChanged_7 : decode cX1_keepChanged 7 = .ok (.aload_n 0, 1) := by decide +kernel
theorem dX1_keepChanged_8 : decode cX1_keepChanged 8 = .ok (.getfield 21, 3) := by decide +kernel
theorem dX1_keepChanged_11 : decode cX1_keepChanged 11 = .ok (.if_icmp .ge 38, 3) := by decide +kernel
theorem dX1_keepChanged_14 : decode cX1_keepChanged 14 = .ok (.iload_n 3, 1) := by decide +kernel
theorem dX1_keepChanged_15 : decode cX1_keepChanged 15 = .ok (.aload_n 0, 1) := by decide +kernel
theorem dX1_keepChanged_16 : decode cX1_keepChanged 16 = .ok (.getfield 15, 3) := by decide +kernel
theorem dX1_keepChanged_19 : decode cX1_keepChanged 19 = .ok (.arraylength, 1) := by decide +kernel
theorem dX1_keepChanged_20 : decode cX1_keepChanged 20 = .ok (.if_icmp .ge 29, 3) := by decide +kernel
theorem dX1_keepChanged_23 : decode cX1_keepChanged 23 = .ok (.aload_n 1, 1) := by decide +kernel
theorem dX1_keepChanged_24 : decode cX1_keepChanged 24 = .ok (.aload_n 0, 1) := by decide +kernel
theorem dX1_keepChanged_25 : decode cX1_keepChanged 25 = .ok (.getfield 15, 3) := by decide +kernel
theorem dX1_keepChanged_28 : decode cX1_keepChanged 28 = .ok (.iload_n 3, 1) := by decide +kernel
theorem dX1_keepChanged_29 : decode cX1_keepChanged 29 = .ok (.iaload, 1) := by decide +kernel
theorem dX1_keepChanged_30 : decode cX1_keepChanged 30 = .ok (.aload_n 0, 1) := by decide +kernel
theorem dX1_keepChanged_31 : decode cX1_keepChanged 31 = .ok (.aload_n 0, 1) := by decide +kernel
theorem dX1_keepChanged_32 : decode cX1_keepChanged 32 = .ok (.getfield 15, 3) := by decide +kernel
theorem dX1_keepChanged_35 : decode cX1_keepChanged 35 = .ok (.iload_n 3, 1) := by decide +kernel
theorem dX1_keepChanged_36 : decode cX1_keepChanged 36 = .ok (.iaload, 1) := by decide +kernel
theorem dX1_keepChanged_37 : decode cX1_keepChanged 37 = .ok (.invokevirtual 37, 3) := by decide +kernel
theorem dX1_keepChanged_40 : decode cX1_keepChanged 40 = .ok (.invokevirtual 25, 3) := by decide +kernel
theorem dX1_keepChanged_43 : decode cX1_keepChanged 43 = .ok (.iinc 3 1, 3) := by decide +kernel
theorem dX1_keepChanged_46 : decode cX1_keepChanged 46 = .ok (.goto (-40), 3) := by decide +kernel
theorem dX1_keepChanged_49 : decode cX1_keepChanged 49 = .ok (.return_, 1) := by decide +kernel
theorem dX1_contentAfter_0 : decode cX1_contentAfter 0 = .ok (.iconst 0, 1) := by decide +kernel
theorem dX1_contentAfter_1 : decode cX1_contentAfter 1 = .ok (.istore_n 3, 1) := by decide +kernel
theorem dX1_contentAfter_2 : decode cX1_contentAfter 2 = .ok (.iconst 0, 1) := by decide +kernel
theorem dX1_contentAfter_3 : decode cX1_contentAfter 3 = .ok (.istore 4, 2) := by decide +kernel
theorem dX1_contentAfter_5 : decode cX1_contentAfter 5 = .ok (.iload 4, 2) := by decide +kernel
theorem dX1_contentAfter_7 : decode cX1_contentAfter 7 = .ok (.iload_n 1, 1) := by decide +kernel
theorem dX1_contentAfter_8 : decode cX1_contentAfter 8 = .ok (.if_icmp .ge 48, 3) := by decide +kernel
theorem dX1_contentAfter_11 : decode cX1_contentAfter 11 = .ok (.iload 4, 2) := by decide +kernel
theorem dX1_contentAfter_13 : decode cX1_contentAfter 13 = .ok (.aload_n 0, 1) := by decide +kernel
theorem dX1_contentAfter_14 : decode cX1_contentAfter 14 = .ok (.getfield 15, 3) := by decide +kernel
theorem dX1_contentAfter_17 : decode cX1_contentAfter 17 = .ok (.arraylength, 1) := by decide +kernel
theorem dX1_contentAfter_18 : decode cX1_contentAfter 18 = .ok (.if_icmp .ge 38, 3) := by decide +kernel
theorem dX1_contentAfter_21 : decode cX1_contentAfter 21 = .ok (.iload 4, 2) := by decide +kernel
theorem dX1_contentAfter_23 : decode cX1_contentAfter 23 = .ok (.aload_n 0, 1) := by decide +kernel
theorem dX1_contentAfter_24 : decode cX1_contentAfter 24 = .ok (.getfield 18, 3) := by decide +kernel
theorem dX1_contentAfter_27 : decode cX1_contentAfter 27 = .ok (.arraylength, 1) := by decide +kernel
theorem dX1_contentAfter_28 : decode cX1_contentAfter 28 = .ok (.if_icmp .ge 28, 3) := by decide +kernel
theorem dX1_contentAfter_31 : decode cX1_contentAfter 31 = .ok (.aload_n 0, 1) := by decide +kernel
theorem dX1_contentAfter_32 : decode cX1_contentAfter 32 = .ok (.getfield 15, 3) := by decide +kernel
theorem dX1_contentAfter_35 : decode cX1_contentAfter 35 = .ok (.iload 4, 2) := by decide +kernel
theorem dX1_contentAfter_37 : decode cX1_contentAfter 37 = .ok (.iaload, 1) := by decide +kernel
theorem dX1_contentAfter_38 : decode cX1_contentAfter 38 = .ok (.iload_n 2, 1) := by decide +kernel
theorem dX1_contentAfter_39 : decode cX1_contentAfter 39 = .ok (.if_icmp .ne 11, 3) := by decide +kernel
theorem dX1_contentAfter_42 : decode cX1_contentAfter 42 = .ok (.aload_n 0, 1) := by decide +kernel
theorem dX1_contentAfter_43 : decode cX1_contentAfter 43 = .ok (.getfield 18, 3) := by decide +kernel
theorem dX1_contentAfter_46 : decode cX1_contentAfter 46 = .ok (.iload 4, 2) := by decide +kernel
theorem dX1_contentAfter_48 : decode cX1_contentAfter 48 = .ok (.iaload, 1) := by decide +kernel
theorem dX1_contentAfter_49 : decode cX1_contentAfter 49 = .ok (.istore_n 3, 1) := by decide +kernel
theorem dX1_contentAfter_50 : decode cX1_contentAfter 50 = .ok (.iinc 4 1, 3) := by decide +kernel
theorem dX1_contentAfter_53 : decode cX1_contentAfter 53 = .ok (.goto (-48), 3) := by decide +kernel
theorem dX1_contentAfter_56 : decode cX1_contentAfter 56 = .ok (.iload_n 3, 1) := by decide +kernel
theorem dX1_contentAfter_57 : decode cX1_contentAfter 57 = .ok (.ireturn, 1) := by decide +kernel
theorem dX2_init_0 : decode cX2_init 0 = .ok (.aload_n 0, 1) := by decide +kernel
theorem dX2_init_1 : decode cX2_init 1 = .ok (.invokespecial 3, 3) := by decide +kernel
theorem dX2_init_4 : decode cX2_init 4 = .ok (.aload_n 0, 1) := by decide +kernel
theorem dX2_init_5 : decode cX2_init 5 = .ok (.sipush 365, 3) := by decide +kernel
theorem dX2_init_8 : decode cX2_init 8 = .ok (.newarray .int, 2) := by decide +kernel
theorem dX2_init_10 : decode cX2_init 10 = .ok (.putfield 9, 3) := by decide +kernel
theorem dX2_init_13 : decode cX2_init 13 = .ok (.iconst 0, 1) := by decide +kernel
theorem dX2_init_14 : decode cX2_init 14 = .ok (.istore_n 1, 1) := by decide +kernel
theorem dX2_init_15 : decode cX2_init 15 = .ok (.iload_n 1, 1) := by decide +kernel
theorem dX2_init_16 : decode cX2_init 16 = .ok (.aload_n 0, 1) := by decide +kernel
theorem dX2_init_17 : decode cX2_init 17 = .ok (.getfield 9, 3) := by decide +kernel
theorem dX2_init_20 : decode cX2_init 20 = .ok (.arraylength, 1) := by decide +kernel
theorem dX2_init_21 : decode cX2_init 21 = .ok (.if_icmp .ge 18, 3) := by decide +kernel
theorem dX2_init_24 : decode cX2_init 24 = .ok (.aload_n 0, 1) := by decide +kernel
theorem dX2_init_25 : decode cX2_init 25 = .ok (.getfield 9, 3) := by decide +kernel
theorem dX2_init_28 : decode cX2_init 28 = .ok (.iload_n 1, 1) := by decide +kernel
theorem dX2_init_29 : decode cX2_init 29 = .ok (.iload_n 1, 1) := by decide +kernel
theorem dX2_init_30 : decode cX2_init 30 = .ok (.iconst 5, 1) := by decide +kernel
theorem dX2_init_31 : decode cX2_init 31 = .ok (.irem, 1) := by decide +kernel
theorem dX2_init_32 : decode cX2_init 32 = .ok (.iastore, 1) := by decide +kernel
theorem dX2_init_33 : decode cX2_init 33 = .ok (.iinc 1 1, 3) := by decide +kernel
theorem dX2_init_36 : decode cX2_init 36 = .ok (.goto (-21), 3) := by decide +kernel
theorem dX2_init_39 : decode cX2_init 39 = .ok (.return_, 1) := by decide +kernel
theorem dX2_personOn_0 : decode cX2_personOn 0 = .ok (.iload_n 1, 1) := by decide +kernel
theorem dX2_personOn_1 : decode cX2_personOn 1 = .ok (.ifCond .lt 21, 3) := by decide +kernel
theorem dX2_personOn_4 : decode cX2_personOn 4 = .ok (.iload_n 1, 1) := by decide +kernel
theorem dX2_personOn_5 : decode cX2_personOn 5 = .ok (.aload_n 0, 1) := by decide +kernel
theorem dX2_personOn_6 : decode cX2_personOn 6 = .ok (.getfield 9, 3) := by decide +kernel
theorem dX2_personOn_9 : decode cX2_personOn 9 = .ok (.arraylength, 1) := by decide +kernel
theorem dX2_personOn_10 : decode cX2_personOn 10 = .ok (.if_icmp .ge 12, 3) := by decide +kernel
theorem dX2_personOn_13 : decode cX2_personOn 13 = .ok (.aload_n 0, 1) := by decide +kernel
theorem dX2_personOn_14 : decode cX2_personOn 14 = .ok (.getfield 9, 3) := by decide +kernel
theorem dX2_personOn_17 : decode cX2_personOn 17 = .ok (.iload_n 1, 1) := by decide +kernel
theorem dX2_personOn_18 : decode cX2_personOn 18 = .ok (.iaload, 1) := by decide +kernel
theorem dX2_personOn_19 : decode cX2_personOn 19 = .ok (.goto 4, 3) := by decide +kernel
theorem dX2_personOn_22 : decode cX2_personOn 22 = .ok (.iconst (-1), 1) := by decide +kernel
theorem dX2_personOn_23 : decode cX2_personOn 23 = .ok (.ireturn, 1) := by decide +kernel
theorem dX2_exchangeIfRested_0 : decode cX2_exchangeIfRested 0 = .ok (.aload_n 0, 1) := by decide +kernel
theorem dX2_exchangeIfRested_1 : decode cX2_exchangeIfRested 1 = .ok (.iload_n 1, 1) := by decide +kernel
theorem dX2_exchangeIfRested_2 : decode cX2_exchangeIfRested 2 = .ok (.iload_n 2, 1) := by decide +kernel
theorem dX2_exchangeIfRested_3 : decode cX2_exchangeIfRested 3 = .ok (.invokevirtual 15, 3) := by decide +kernel
theorem dX2_exchangeIfRested_6 : decode cX2_exchangeIfRested 6 = .ok (.aload_n 0, 1) := by decide +kernel
theorem dX2_exchangeIfRested_7 : decode cX2_exchangeIfRested 7 = .ok (.iload_n 1, 1) := by decide +kernel
theorem dX2_exchangeIfRested_8 : decode cX2_exchangeIfRested 8 = .ok (.invokevirtual 19, 3) := by decide +kernel
theorem dX2_exchangeIfRested_11 : decode cX2_exchangeIfRested 11 = .ok (.ifCond .eq 13, 3) := by decide +kernel
theorem dX2_exchangeIfRested_14 : decode cX2_exchangeIfRested 14 = .ok (.aload_n 0, 1) := by decide +kernel
theorem dX2_exchangeIfRested_15 : decode cX2_exchangeIfRested 15 = .ok (.iload_n 2, 1) := by decide +kernel
theorem dX2_exchangeIfRested_16 : decode cX2_exchangeIfRested 16 = .ok (.invokevirtual 19, 3) := by decide +kernel
theorem dX2_exchangeIfRested_19 : decode cX2_exchangeIfRested 19 = .ok (.ifCond .eq 5, 3) := by decide +kernel
theorem dX2_exchangeIfRested_22 : decode cX2_exchangeIfRested 22 = .ok (.iconst 1, 1) := by decide +kernel
theorem dX2_exchangeIfRested_23 : decode cX2_exchangeIfRested 23 = .ok (.ireturn, 1) := by decide +kernel
theorem dX2_exchangeIfRested_24 : decode cX2_exchangeIfRested 24 = .ok (.aload_n 0, 1) := by decide +kernel
theorem dX2_exchangeIfRested_25 : decode cX2_exchangeIfRested 25 = .ok (.iload_n 1, 1) := by decide +kernel
theorem dX2_exchangeIfRested_26 : decode cX2_exchangeIfRested 26 = .ok (.iload_n 2, 1) := by decide +kernel
theorem dX2_exchangeIfRested_27 : decode cX2_exchangeIfRested 27 = .ok (.invokevirtual 15, 3) := by decide +kernel
theorem dX2_exchangeIfRested_30 : decode cX2_exchangeIfRested 30 = .ok (.iconst 0, 1) := by decide +kernel
theorem dX2_exchangeIfRested_31 : decode cX2_exchangeIfRested 31 = .ok (.ireturn, 1) := by decide +kernel
theorem dX2_exchange_0 : decode cX2_exchange 0 = .ok (.iload_n 1, 1) := by decide +kernel
theorem dX2_exchange_1 : decode cX2_exchange 1 = .ok (.ifCond .lt 25, 3) := by decide +kernel
theorem dX2_exchange_4 : decode cX2_exchange 4 = .ok (.iload_n 1, 1) := by decide +kernel
theorem dX2_exchange_5 : decode cX2_exchange 5 = .ok (.aload_n 0, 1) := by decide +kernel
theorem dX2_exchange_6 : decode cX2_exchange 6 = .ok (.getfield 9, 3) := by decide +kernel
theorem dX2_exchange_9 : decode cX2_exchange 9 = .ok (.arraylength, 1) := by decide +kernel
theorem dX2_exchange_10 : decode cX2_exchange 10 = .ok (.if_icmp .ge 16, 3) := by decide +kernel
theorem dX2_exchange_13 : decode cX2_exchange 13 = .ok (.iload_n 2, 1) := by decide +kernel
theorem dX2_exchange_14 : decode cX2_exchange 14 = .ok (.ifCond .lt 12, 3) := by decide +kernel
theorem dX2_exchange_17 : decode cX2_exchange 17 = .ok (.iload_n 2, 1) := by decide +kernel
theorem dX2_exchange_18 : decode cX2_exchange 18 = .ok (.aload_n 0, 1) := by decide +kernel
theorem dX2_exchange_19 : decode cX2_exchange 19 = .ok (.getfield 9, 3) := by decide +kernel
theorem dX2_exchange_22 : decode cX2_exchange 22 = .ok (.arraylength, 1) := by decide +kernel
theorem dX2_exchange_23 : decode cX2_exchange 23 = .ok (.if_icmp .lt 4, 3) := by decide +kernel
theorem dX2_exchange_26 : decode cX2_exchange 26 = .ok (.return_, 1) := by decide +kernel
theorem dX2_exchange_27 : decode cX2_exchange 27 = .ok (.aload_n 0, 1) := by decide +kernel
theorem dX2_exchange_28 : decode cX2_exchange 28 = .ok (.getfield 9, 3) := by decide +kernel
theorem dX2_exchange_31 : decode cX2_exchange 31 = .ok (.iload_n 1, 1) := by decide +kernel
theorem dX2_exchange_32 : decode cX2_exchange 32 = .ok (.iaload, 1) := by decide +kernel
theorem dX2_exchange_33 : decode cX2_exchange 33 = .ok (.istore_n 3, 1) := by decide +kernel
theorem dX2_exchange_34 : decode cX2_exchange 34 = .ok (.aload_n 0, 1) := by decide +kernel
theorem dX2_exchange_35 : decode cX2_exchange 35 = .ok (.getfield 9, 3) := by decide +kernel
theorem dX2_exchange_38 : decode cX2_exchange 38 = .ok (.iload_n 1, 1) := by decide +kernel
theorem dX2_exchange_39 : decode cX2_exchange 39 = .ok (.aload_n 0, 1) := by decide +kernel
theorem dX2_exchange_40 : decode cX2_exchange 40 = .ok (.getfield 9, 3) := by decide +kernel
theorem dX2_exchange_43 : decode cX2_exchange 43 = .ok (.iload_n 2, 1) := by decide +kernel
theorem dX2_exchange_44 : decode cX2_exchange 44 = .ok (.iaload, 1) := by decide +kernel
theorem dX2_exchange_45 : decode cX2_exchange 45 = .ok (.iastore, 1) := by decide +kernel
theorem dX2_exchange_46 : decode cX2_exchange 46 = .ok (.aload_n 0, 1) := by decide +kernel
theorem dX2_exchange_47 : decode cX2_exchange 47 = .ok (.getfield 9, 3) := by decide +kernel
theorem dX2_exchange_50 : decode cX2_exchange 50 = .ok (.iload_n 2, 1) := by decide +kernel
theorem dX2_exchange_51 : decode cX2_exchange 51 = .ok (.iload_n 3, 1) := by decide +kernel
theorem dX2_exchange_52 : decode cX2_exchange 52 = .ok (.iastore, 1) := by decide +kernel
theorem dX2_exchange_53 : decode cX2_exchange 53 = .ok (.return_, 1) := by decide +kernel
theorem dX2_isRestedAround_0 : decode cX2_isRestedAround 0 = .ok (.aload_n 0, 1) := by decide +kernel
theorem dX2_isRestedAround_1 : decode cX2_isRestedAround 1 = .ok (.iload_n 1, 1) := by decide +kernel
theorem dX2_isRestedAround_2 : decode cX2_isRestedAround 2 = .ok (.invokevirtual 23, 3) := by decide +kernel
theorem dX2_isRestedAround_5 : decode cX2_isRestedAround 5 = .ok (.istore_n 2, 1) := by decide +kernel
theorem dX2_isRestedAround_6 : decode cX2_isRestedAround 6 = .ok (.iload_n 2, 1) := by decide +kernel
theorem dX2_isRestedAround_7 : decode cX2_isRestedAround 7 = .ok (.aload_n 0, 1) := by decide +kernel
theorem dX2_isRestedAround_8 : decode cX2_isRestedAround 8 = .ok (.iload_n 1, 1) := by decide +kernel
theorem dX2_isRestedAround_9 : decode cX2_isRestedAround 9 = .ok (.iconst 1, 1) := by decide +kernel
theorem dX2_isRestedAround_10 : decode cX2_isRestedAround 10 = .ok (.isub, 1) := by decide +kernel
theorem dX2_isRestedAround_11 : decode cX2_isRestedAround 11 = .ok (.invokevirtual 23, 3) := by decide +kernel
theorem dX2_isRestedAround_14 : decode cX2_isRestedAround 14 = .ok (.if_icmp .eq 18, 3) := by decide +kernel
theorem dX2_isRestedAround_17 : decode cX2_isRestedAround 17 = .ok (.iload_n 2, 1) := by decide +kernel
theorem dX2_isRestedAround_18 : decode cX2_isRestedAround 18 = .ok (.aload_n 0, 1) := by decide +kernel
theorem dX2_isRestedAround_19 : decode cX2_isRestedAround 19 = .ok (.iload_n 1, 1) := by decide +kernel
theorem dX2_isRestedAround_20 : decode cX2_isRestedAround 20 = .ok (.iconst 1, 1) := by decide +kernel
theorem dX2_isRestedAround_21 : decode cX2_isRestedAround 21 = .ok (.iadd, 1) := by decide +kernel
theorem dX2_isRestedAround_22 : decode cX2_isRestedAround 22 = .ok (.invokevirtual 23, 3) := by decide +kernel
theorem dX2_isRestedAround_25 : decode cX2_isRestedAround 25 = .ok (.if_icmp .eq 7, 3) := by decide +kernel
theorem dX2_isRestedAround_28 : decode cX2_isRestedAround 28 = .ok (.iconst 1, 1) := by decide +kernel
theorem dX2_isRestedAround_29 : decode cX2_isRestedAround 29 = .ok (.goto 4, 3) := by decide +kernel
theorem dX2_isRestedAround_32 : decode cX2_isRestedAround 32 = .ok (.iconst 0, 1) := by decide +kernel
theorem dX2_isRestedAround_33 : decode cX2_isRestedAround 33 = .ok (.ireturn, 1) := by decide +kernel
theorem dX2_firstToAnswer_0 : decode cX2_firstToAnswer 0 = .ok (.iconst 0, 1) := by decide +kernel
theorem dX2_firstToAnswer_1 : decode cX2_firstToAnswer 1 = .ok (.istore_n 3, 1) := by decide +kernel
theorem dX2_firstToAnswer_2 : decode cX2_firstToAnswer 2 = .ok (.iload_n 3, 1) := by decide +kernel
theorem dX2_firstToAnswer_3 : decode cX2_firstToAnswer 3 = .ok (.iconst 3, 1) := by decide +kernel
theorem dX2_firstToAnswer_4 : decode cX2_firstToAnswer 4 = .ok (.if_icmp .gt 41, 3) := by decide +kernel
theorem dX2_firstToAnswer_7 : decode cX2_firstToAnswer 7 = .ok (.aload_n 0, 1) := by decide +kernel
theorem dX2_firstToAnswer_8 : decode cX2_firstToAnswer 8 = .ok (.iload_n 1, 1) := by decide +kernel
theorem dX2_firstToAnswer_9 : decode cX2_firstToAnswer 9 = .ok (.iload_n 3, 1) := by decide +kernel
theorem dX2_firstToAnswer_10 : decode cX2_firstToAnswer 10 = .ok (.iadd, 1) := by decide +kernel
theorem dX2_firstToAnswer_11 : decode cX2_firstToAnswer 11 = .ok (.invokevirtual 23, 3) := by decide +kernel
theorem dX2_firstToAnswer_14 : decode cX2_firstToAnswer 14 = .ok (.istore 4, 2) := by decide +kernel
theorem dX2_firstToAnswer_16 : decode cX2_firstToAnswer 16 = .ok (.iload 4, 2) := by decide +kernel
theorem dX2_firstToAnswer_18 : decode cX2_firstToAnswer 18 = .ok (.ifCond .lt 21, 3) := by decide +kernel
theorem dX2_firstToAnswer_21 : decode cX2_firstToAnswer 21 = .ok (.iload 4, 2) := by decide +kernel
theorem dX2_firstToAnswer_23 : decode cX2_firstToAnswer 23 = .ok (.iconst 5, 1) := by decide +kernel
theorem dX2_firstToAnswer_24 : decode cX2_firstToAnswer 24 = .ok (.if_icmp .ge 15, 3) := by decide +kernel
theorem dX2_firstToAnswer_27 : decode cX2_firstToAnswer 27 = .ok (.iload_n 2, 1) := by decide +kernel
theorem dX2_firstToAnswer_28 : decode cX2_firstToAnswer 28 = .ok (.iconst 1, 1) := by decide +kernel
theorem dX2_firstToAnswer_29 : decode cX2_firstToAnswer 29 = .ok (.iload 4, 2) := by decide +kernel
theorem dX2_firstToAnswer_31 : decode cX2_firstToAnswer 31 = .ok (.ishl, 1) := by decide +kernel
theorem dX2_firstToAnswer_32 : decode cX2_firstToAnswer 32 = .ok (.iand, 1) := by decide +kernel
theorem dX2_firstToAnswer_33 : decode cX2_firstToAnswer 33 = .ok (.ifCond .eq 6, 3) := by decide +kernel
theorem dX2_firstToAnswer_36 : decode cX2_firstToAnswer 36 = .ok (.iload 4, 2) := by decide +kernel
theorem dX2_firstToAnswer_38 : decode cX2_firstToAnswer 38 = .ok (.ireturn, 1) := by decide +kernel
theorem dX2_firstToAnswer_39 : decode cX2_firstToAnswer 39 = .ok (.iinc 3 1, 3) := by decide +kernel
theorem dX2_firstToAnswer_42 : decode cX2_firstToAnswer 42 = .ok (.goto (-40), 3) := by decide +kernel
theorem dX2_firstToAnswer_45 : decode cX2_firstToAnswer 45 = .ok (.iconst (-1), 1) := by decide +kernel
theorem dX2_firstToAnswer_46 : decode cX2_firstToAnswer 46 = .ok (.ireturn, 1) := by decide +kernel
theorem dX3_init_0 : decode cX3_init 0 = .ok (.aload_n 0, 1) := by decide +kernel
theorem dX3_init_1 : decode cX3_init 1 = .ok (.invokespecial 3, 3) := by decide +kernel
theorem dX3_init_4 : decode cX3_init 4 = .ok (.aload_n 0, 1) := by decide +kernel
theorem dX3_init_5 : decode cX3_init 5 = .ok (.bipush 60, 2) := by decide +kernel
theorem dX3_init_7 : decode cX3_init 7 = .ok (.anewarray 9, 3) := by decide +kernel
theorem dX3_init_10 : decode cX3_init 10 = .ok (.putfield 11, 3) := by decide +kernel
theorem dX3_init_13 : decode cX3_init 13 = .ok (.aload_n 0, 1) := by decide +kernel
theorem dX3_init_14 : decode cX3_init 14 = .ok (.iconst 3, 1) := by decide +kernel
theorem dX3_init_15 : decode cX3_init 15 = .ok (.putfield 17, 3) := by decide +kernel
theorem dX3_init_18 : decode cX3_init 18 = .ok (.aload_n 0, 1) := by decide +kernel
theorem dX3_init_19 : decode cX3_init 19 = .ok (.iconst 2, 1) := by decide +kernel
theorem dX3_init_20 : decode cX3_init 20 = .ok (.putfield 21, 3) := by decide +kernel
theorem dX3_init_23 : decode cX3_init 23 = .ok (.aload_n 0, 1) := by decide +kernel
theorem dX3_init_24 : decode cX3_init 24 = .ok (.iconst 1, 1) := by decide +kernel
theorem dX3_init_25 : decode cX3_init 25 = .ok (.putfield 24, 3) := by decide +kernel
theorem dX3_init_28 : decode cX3_init 28 = .ok (.return_, 1) := by decide +kernel
theorem dX3_find_0 : decode cX3_find 0 = .ok (.iload_n 1, 1) := by decide +kernel
theorem dX3_find_1 : decode cX3_find 1 = .ok (.ifCond .lt 21, 3) := by decide +kernel
theorem dX3_find_4 : decode cX3_find 4 = .ok (.iload_n 1, 1) := by decide +kernel
theorem dX3_find_5 : decode cX3_find 5 = .ok (.aload_n 0, 1) := by decide +kernel
theorem dX3_find_6 : decode cX3_find 6 = .ok (.getfield 11, 3) := by decide +kernel
theorem dX3_find_9 : decode cX3_find 9 = .ok (.arraylength, 1) := by decide +kernel
theorem dX3_find_10 : decode cX3_find 10 = .ok (.if_icmp .ge 12, 3) := by decide +kernel
theorem dX3_find_13 : decode cX3_find 13 = .ok (.aload_n 0, 1) := by decide +kernel
theorem dX3_find_14 : decode cX3_find 14 = .ok (.getfield 11, 3) := by decide +kernel
theorem dX3_find_17 : decode cX3_find 17 = .ok (.iload_n 1, 1) := by decide +kernel
theorem dX3_find_18 : decode cX3_find 18 = .ok (.aaload, 1) := by decide +kernel
theorem dX3_find_19 : decode cX3_find 19 = .ok (.goto 4, 3) := by decide +kernel
theorem dX3_find_22 : decode cX3_find 22 = .ok (.aconst_null, 1) := by decide +kernel
theorem dX3_find_23 : decode cX3_find 23 = .ok (.areturn, 1) := by decide +kernel
theorem dX3_latest_0 : decode cX3_latest 0 = .ok (.aload_n 0, 1) := by decide +kernel
theorem dX3_latest_1 : decode cX3_latest 1 = .ok (.getfield 11, 3) := by decide +kernel
theorem dX3_latest_4 : decode cX3_latest 4 = .ok (.arraylength, 1) := by decide +kernel
theorem dX3_latest_5 : decode cX3_latest 5 = .ok (.iconst 1, 1) := by decide +kernel
theorem dX3_latest_6 : decode cX3_latest 6 = .ok (.isub, 1) := by decide +kernel
theorem dX3_latest_7 : decode cX3_latest 7 = .ok (.istore_n 1, 1) := by decide +kernel
theorem dX3_latest_8 : decode cX3_latest 8 = .ok (.iload_n 1, 1) := by decide +kernel
theorem dX3_latest_9 : decode cX3_latest 9 = .ok (.ifCond .lt 25, 3) := by decide +kernel
theorem dX3_latest_12 : decode cX3_latest 12 = .ok (.aload_n 0, 1) := by decide +kernel
theorem dX3_latest_13 : decode cX3_latest 13 = .ok (.getfield 11, 3) := by decide +kernel
theorem dX3_latest_16 : decode cX3_latest 16 = .ok (.iload_n 1, 1) := by decide +kernel
theorem dX3_latest_17 : decode cX3_latest 17 = .ok (.aaload, 1) := by decide +kernel
theorem dX3_latest_18 : decode cX3_latest 18 = .ok (.ifnull 10, 3) := by decide +kernel
theorem dX3_latest_21 : decode cX3_latest 21 = .ok (.aload_n 0, 1) := by decide +kernel
theorem dX3_latest_22 : decode cX3_latest 22 = .ok (.getfield 11, 3) := by decide +kernel
theorem dX3_latest_25 : decode cX3_latest 25 = .ok (.iload_n 1, 1) := by decide +kernel
theorem dX3_latest_26 : decode cX3_latest 26 = .ok (.aaload, 1) := by decide +kernel
theorem dX3_latest_27 : decode cX3_latest 27 = .ok (.areturn, 1) := by decide +kernel
theorem dX3_latest_28 : decode cX3_latest 28 = .ok (.iinc 1 (-1), 3) := by decide +kernel
theorem dX3_latest_31 : decode cX3_latest 31 = .ok (.goto (-23), 3) := by decide +kernel
theorem dX3_latest_34 : decode cX3_latest 34 = .ok (.aconst_null, 1) := by decide +kernel
theorem dX3_latest_35 : decode cX3_latest 35 = .ok (.areturn, 1) := by decide +kernel
theorem dX3_put_0 : decode cX3_put 0 = .ok (.aload_n 0, 1) := by decide +kernel
theorem dX3_put_1 : decode cX3_put 1 = .ok (.getfield 27, 3) := by decide +kernel
theorem dX3_put_4 : decode cX3_put 4 = .ok (.ifCond .lt 35, 3) := by decide +kernel
theorem dX3_put_7 : decode cX3_put 7 = .ok (.aload_n 0, 1) := by decide +kernel
theorem dX3_put_8 : decode cX3_put 8 = .ok (.getfield 27, 3) := by decide +kernel
theorem dX3_put_11 : decode cX3_put 11 = .ok (.aload_n 0, 1) := by decide +kernel
theorem dX3_put_12 : decode cX3_put 12 = .ok (.getfield 11, 3) := by decide +kernel
theorem dX3_put_15 : decode cX3_put 15 = .ok (.arraylength, 1) := by decide +kernel
theorem dX3_put_16 : decode cX3_put 16 = .ok (.if_icmp .ge 23, 3) := by decide +kernel
theorem dX3_put_19 : decode cX3_put 19 = .ok (.aload_n 0, 1) := by decide +kernel
theorem dX3_put_20 : decode cX3_put 20 = .ok (.getfield 11, 3) := by decide +kernel
theorem dX3_put_23 : decode cX3_put 23 = .ok (.aload_n 0, 1) := by decide +kernel
theorem dX3_put_24 : decode cX3_put 24 = .ok (.getfield 27, 3) := by decide +kernel
theorem dX3_put_27 : decode cX3_put 27 = .ok (.aload_n 1, 1) := by decide +kernel
theorem dX3_put_28 : decode cX3_put 28 = .ok (.aastore, 1) := by decide +kernel
theorem dX3_put_29 : decode cX3_put 29 = .ok (.aload_n 0, 1) := by decide +kernel
theorem dX3_put_30 : decode cX3_put 30 = .ok (.dup, 1) := by decide +kernel
theorem dX3_put_31 : decode cX3_put 31 = .ok (.getfield 27, 3) := by decide +kernel
theorem dX3_put_34 : decode cX3_put 34 = .ok (.iconst 1, 1) := by decide +kernel
theorem dX3_put_35 : decode cX3_put 35 = .ok (.iadd, 1) := by decide +kernel
theorem dX3_put_36 : decode cX3_put 36 = .ok (.putfield 27, 3) := by decide +kernel
theorem dX3_put_39 : decode cX3_put 39 = .ok (.return_, 1) := by decide +kernel
theorem dX3_countThere_0 : decode cX3_countThere 0 = .ok (.iconst 0, 1) := by decide +kernel
theorem dX3_countThere_1 : decode cX3_countThere 1 = .ok (.istore_n 1, 1) := by decide +kernel
theorem dX3_countThere_2 : decode cX3_countThere 2 = .ok (.aload_n 0, 1) := by decide +kernel
theorem dX3_countThere_3 : decode cX3_countThere 3 = .ok (.getfield 11, 3) := by decide +kernel
theorem dX3_countThere_6 : decode cX3_countThere 6 = .ok (.astore_n 2, 1) := by decide +kernel
theorem dX3_countThere_7 : decode cX3_countThere 7 = .ok (.aload_n 2, 1) := by decide +kernel
theorem dX3_countThere_8 : decode cX3_countThere 8 = .ok (.arraylength, 1) := by decide +kernel
theorem dX3_countThere_9 : decode cX3_countThere 9 = .ok (.istore_n 3, 1) := by decide +kernel
theorem dX3_countThere_10 : decode cX3_countThere 10 = .ok (.iconst 0, 1) := by decide +kernel
theorem dX3_countThere_11 : decode cX3_countThere 11 = .ok (.istore 4, 2) := by decide +kernel
theorem dX3_countThere_13 : decode cX3_countThere 13 = .ok (.iload 4, 2) := by decide +kernel
theorem dX3_countThere_15 : decode cX3_countThere 15 = .ok (.iload_n 3, 1) := by decide +kernel
theorem dX3_countThere_16 : decode cX3_countThere 16 = .ok (.if_icmp .ge 23, 3) := by decide +kernel
theorem dX3_countThere_19 : decode cX3_countThere 19 = .ok (.aload_n 2, 1) := by decide +kernel
theorem dX3_countThere_20 : decode cX3_countThere 20 = .ok (.iload 4, 2) := by decide +kernel
theorem dX3_countThere_22 : decode cX3_countThere 22 = .ok (.aaload, 1) := by decide +kernel
theorem dX3_countThere_23 : decode cX3_countThere 23 = .ok (.astore 5, 2) := by decide +kernel
theorem dX3_countThere_25 : decode cX3_countThere 25 = .ok (.aload 5, 2) := by decide +kernel
theorem dX3_countThere_27 : decode cX3_countThere 27 = .ok (.ifnull 6, 3) := by decide +kernel
theorem dX3_countThere_30 : decode cX3_countThere 30 = .ok (.iinc 1 1, 3) := by decide +kernel
theorem dX3_countThere_33 : decode cX3_countThere 33 = .ok (.iinc 4 1, 3) := by decide +kernel
theorem dX3_countThere_36 : decode cX3_countThere 36 = .ok (.goto (-23), 3) := by decide +kernel
theorem dX3_countThere_39 : decode cX3_countThere 39 = .ok (.iload_n 1, 1) := by decide +kernel
theorem dX3_countThere_40 : decode cX3_countThere 40 = .ok (.ireturn, 1) := by decide +kernel
theorem dX3_spaceTaken_0 : decode cX3_spaceTaken 0 = .ok (.iconst 0, 1) := by decide +kernel
theorem dX3_spaceTaken_1 : decode cX3_spaceTaken 1 = .ok (.istore_n 1, 1) := by decide +kernel
theorem dX3_spaceTaken_2 : decode cX3_spaceTaken 2 = .ok (.aload_n 0, 1) := by decide +kernel
theorem dX3_spaceTaken_3 : decode cX3_spaceTaken 3 = .ok (.getfield 11, 3) := by decide +kernel
theorem dX3_spaceTaken_6 : decode cX3_spaceTaken 6 = .ok (.astore_n 2, 1) := by decide +kernel
theorem dX3_spaceTaken_7 : decode cX3_spaceTaken 7 = .ok (.aload_n 2, 1) := by decide +kernel
theorem dX3_spaceTaken_8 : decode cX3_spaceTaken 8 = .ok (.arraylength, 1) := by decide +kernel
theorem dX3_spaceTaken_9 : decode cX3_spaceTaken 9 = .ok (.istore_n 3, 1) := by decide +kernel
theorem dX3_spaceTaken_10 : decode cX3_spaceTaken 10 = .ok (.iconst 0, 1) := by decide +kernel
theorem dX3_spaceTaken_11 : decode cX3_spaceTaken 11 = .ok (.istore 4, 2) := by decide +kernel
theorem dX3_spaceTaken_13 : decode cX3_spaceTaken 13 = .ok (.iload 4, 2) := by decide +kernel
theorem dX3_spaceTaken_15 : decode cX3_spaceTaken 15 = .ok (.iload_n 3, 1) := by decide +kernel
theorem dX3_spaceTaken_16 : decode cX3_spaceTaken 16 = .ok (.if_icmp .ge 28, 3) := by decide +kernel
theorem dX3_spaceTaken_19 : decode cX3_spaceTaken 19 = .ok (.aload_n 2, 1) := by decide +kernel
theorem dX3_spaceTaken_20 : decode cX3_spaceTaken 20 = .ok (.iload 4, 2) := by decide +kernel
theorem dX3_spaceTaken_22 : decode cX3_spaceTaken 22 = .ok (.aaload, 1) := by decide +kernel
theorem dX3_spaceTaken_23 : decode cX3_spaceTaken 23 = .ok (.astore 5, 2) := by decide +kernel
theorem dX3_spaceTaken_25 : decode cX3_spaceTaken 25 = .ok (.aload 5, 2) := by decide +kernel
theorem dX3_spaceTaken_27 : decode cX3_spaceTaken 27 = .ok (.ifnull 11, 3) := by decide +kernel
theorem dX3_spaceTaken_30 : decode cX3_spaceTaken 30 = .ok (.iload_n 1, 1) := by decide +kernel
theorem dX3_spaceTaken_31 : decode cX3_spaceTaken 31 = .ok (.aload 5, 2) := by decide +kernel
theorem dX3_spaceTaken_33 : decode cX3_spaceTaken 33 = .ok (.invokevirtual 30, 3) := by decide +kernel
theorem dX3_spaceTaken_36 : decode cX3_spaceTaken 36 = .ok (.iadd, 1) := by decide +kernel
theorem dX3_spaceTaken_37 : decode cX3_spaceTaken 37 = .ok (.istore_n 1, 1) := by decide +kernel
theorem dX3_spaceTaken_38 : decode cX3_spaceTaken 38 = .ok (.iinc 4 1, 3) := by decide +kernel
theorem dX3_spaceTaken_41 : decode cX3_spaceTaken 41 = .ok (.goto (-28), 3) := by decide +kernel
theorem dX3_spaceTaken_44 : decode cX3_spaceTaken 44 = .ok (.iload_n 1, 1) := by decide +kernel
theorem dX3_spaceTaken_45 : decode cX3_spaceTaken 45 = .ok (.ireturn, 1) := by decide +kernel
theorem dX3_markGenerations_0 : decode cX3_markGenerations 0 = .ok (.aload_n 0, 1) := by decide +kernel
theorem dX3_markGenerations_1 : decode cX3_markGenerations 1 = .ok (.getfield 11, 3) := by decide +kernel
theorem dX3_markGenerations_4 : decode cX3_markGenerations 4 = .ok (.astore_n 1, 1) := by decide +kernel
theorem dX3_markGenerations_5 : decode cX3_markGenerations 5 = .ok (.aload_n 1, 1) := by decide +kernel
theorem dX3_markGenerations_6 : decode cX3_markGenerations 6 = .ok (.arraylength, 1) := by decide +kernel
theorem dX3_markGenerations_7 : decode cX3_markGenerations 7 = .ok (.istore_n 2, 1) := by decide +kernel
theorem dX3_markGenerations_8 : decode cX3_markGenerations 8 = .ok (.iconst 0, 1) := by decide +kernel
theorem dX3_markGenerations_9 : decode cX3_markGenerations 9 = .ok (.istore_n 3, 1) := by decide +kernel
theorem dX3_markGenerations_10 : decode cX3_markGenerations 10 = .ok (.iload_n 3, 1) := by decide +kernel
theorem dX3_markGenerations_11 : decode cX3_markGenerations 11 = .ok (.iload_n 2, 1) := by decide +kernel
theorem dX3_markGenerations_12 : decode cX3_markGenerations 12 = .ok (.if_icmp .ge 31, 3) := by decide +kernel
theorem dX3_markGenerations_15 : decode cX3_markGenerations 15 = .ok (.aload_n 1, 1) := by decide +kernel
theorem dX3_markGenerations_16 : decode cX3_markGenerations 16 = .ok (.iload_n 3, 1) := by decide +kernel
theorem dX3_markGenerations_17 : decode cX3_markGenerations 17 = .ok (.aaload, 1) := by decide +kernel
theorem dX3_markGenerations_18 : decode cX3_markGenerations 18 = .ok (.astore 4, 2) := by decide +kernel
theorem dX3_markGenerations_20 : decode cX3_markGenerations 20 = .ok (.aload 4, 2) := by decide +kernel
theorem dX3_markGenerations_22 : decode cX3_markGenerations 22 = .ok (.ifnull 15, 3) := by decide +kernel
theorem dX3_markGenerations_25 : decode cX3_markGenerations 25 = .ok (.aload 4, 2) := by decide +kernel
theorem dX3_markGenerations_27 : decode cX3_markGenerations 27 = .ok (.iconst 0, 1) := by decide +kernel
theorem dX3_markGenerations_28 : decode cX3_markGenerations 28 = .ok (.putfield 34, 3) := by decide +kernel
theorem dX3_markGenerations_31 : decode cX3_markGenerations 31 = .ok (.aload 4, 2) := by decide +kernel
theorem dX3_markGenerations_33 : decode cX3_markGenerations 33 = .ok (.iconst 0, 1) := by decide +kernel
theorem dX3_markGenerations_34 : decode cX3_markGenerations 34 = .ok (.putfield 38, 3) := by decide +kernel
theorem dX3_markGenerations_37 : decode cX3_markGenerations 37 = .ok (.iinc 3 1, 3) := by decide +kernel
theorem dX3_markGenerations_40 : decode cX3_markGenerations 40 = .ok (.goto (-30), 3) := by decide +kernel
theorem dX3_markGenerations_43 : decode cX3_markGenerations 43 = .ok (.aload_n 0, 1) := by decide +kernel
theorem dX3_markGenerations_44 : decode cX3_markGenerations 44 = .ok (.iconst 0, 1) := by decide +kernel
theorem dX3_markGenerations_45 : decode cX3_markGenerations 45 = .ok (.aload_n 0, 1) := by decide +kernel
theorem dX3_markGenerations_46 : decode cX3_markGenerations 46 = .ok (.getfield 17, 3) := by decide +kernel
theorem dX3_markGenerations_49 : decode cX3_markGenerations 49 = .ok (.invokevirtual 41, 3) := by decide +kernel
theorem dX3_markGenerations_52 : decode cX3_markGenerations 52 = .ok (.aload_n 0, 1) := by decide +kernel
theorem dX3_markGenerations_53 : decode cX3_markGenerations 53 = .ok (.iconst 1, 1) := by decide +kernel
theorem dX3_markGenerations_54 : decode cX3_markGenerations 54 = .ok (.aload_n 0, 1) := by decide +kernel
theorem dX3_markGenerations_55 : decode cX3_markGenerations 55 = .ok (.getfield 21, 3) := by decide +kernel
theorem dX3_markGenerations_58 : decode cX3_markGenerations 58 = .ok (.invokevirtual 41, 3) := by decide +kernel
theorem dX3_markGenerations_61 : decode cX3_markGenerations 61 = .ok (.aload_n 0, 1) := by decide +kernel
theorem dX3_markGenerations_62 : decode cX3_markGenerations 62 = .ok (.iconst 2, 1) := by decide +kernel
theorem dX3_markGenerations_63 : decode cX3_markGenerations 63 = .ok (.aload_n 0, 1) := by decide +kernel
theorem dX3_markGenerations_64 : decode cX3_markGenerations 64 = .ok (.getfield 24, 3) := by decide +kernel
theorem dX3_markGenerations_67 : decode cX3_markGenerations 67 = .ok (.invokevirtual 41, 3) := by decide +kernel
theorem dX3_markGenerations_70 : decode cX3_markGenerations 70 = .ok (.aload_n 0, 1) := by decide +kernel
theorem dX3_markGenerations_71 : decode cX3_markGenerations 71 = .ok (.getfield 11, 3) := by decide +kernel
theorem dX3_markGenerations_74 : decode cX3_markGenerations 74 = .ok (.astore_n 1, 1) := by decide +kernel
theorem dX3_markGenerations_75 : decode cX3_markGenerations 75 = .ok (.aload_n 1, 1) := by decide +kernel
theorem dX3_markGenerations_76 : decode cX3_markGenerations 76 = .ok (.arraylength, 1) := by decide +kernel
theorem dX3_markGenerations_77 : decode cX3_markGenerations 77 = .ok (.istore_n 2, 1) := by decide +kernel
theorem dX3_markGenerations_78 : decode cX3_markGenerations 78 = .ok (.iconst 0, 1) := by decide +kernel
theorem dX3_markGenerations_79 : decode cX3_markGenerations 79 = .ok (.istore_n 3, 1) := by decide +kernel
theorem dX3_markGenerations_80 : decode cX3_markGenerations 80 = .ok (.iload_n 3, 1) := by decide +kernel
theorem dX3_markGenerations_81 : decode cX3_markGenerations 81 = .ok (.iload_n 2, 1) := by decide +kernel
theorem dX3_markGenerations_82 : decode cX3_markGenerations 82 = .ok (.if_icmp .ge 32, 3) := by decide +kernel
theorem dX3_markGenerations_85 : decode cX3_markGenerations 85 = .ok (.aload_n 1, 1) := by decide +kernel
theorem dX3_markGenerations_86 : decode cX3_markGenerations 86 = .ok (.iload_n 3, 1) := by decide +kernel
theorem dX3_markGenerations_87 : decode cX3_markGenerations 87 = .ok (.aaload, 1) := by decide +kernel
theorem dX3_markGenerations_88 : decode cX3_markGenerations 88 = .ok (.astore 4, 2) := by decide +kernel
theorem dX3_markGenerations_90 : decode cX3_markGenerations 90 = .ok (.aload 4, 2) := by decide +kernel
theorem dX3_markGenerations_92 : decode cX3_markGenerations 92 = .ok (.ifnull 16, 3) := by decide +kernel
theorem dX3_markGenerations_95 : decode cX3_markGenerations 95 = .ok (.aload 4, 2) := by decide +kernel
theorem dX3_markGenerations_97 : decode cX3_markGenerations 97 = .ok (.getfield 34, 3) := by decide +kernel
theorem dX3_markGenerations_100 : decode cX3_markGenerations 100 = .ok (.ifCond .eq 8, 3) := by decide +kernel
theorem dX3_markGenerations_103 : decode cX3_markGenerations 103 = .ok (.aload 4, 2) := by decide +kernel
theorem dX3_markGenerations_105 : decode cX3_markGenerations 105 = .ok (.invokevirtual 45, 3) := by decide +kernel
theorem dX3_markGenerations_108 : decode cX3_markGenerations 108 = .ok (.iinc 3 1, 3) := by decide +kernel
theorem dX3_markGenerations_111 : decode cX3_markGenerations 111 = .ok (.goto (-31), 3) := by decide +kernel
theorem dX3_markGenerations_114 : decode cX3_markGenerations 114 = .ok (.return_, 1) := by decide +kernel
theorem dX3_promiseLatest_0 : decode cX3_promiseLatest 0 = .ok (.iload_n 2, 1) := by decide +kernel
theorem dX3_promiseLatest_1 : decode cX3_promiseLatest 1 = .ok (.istore_n 3, 1) := by decide +kernel
theorem dX3_promiseLatest_2 : decode cX3_promiseLatest 2 = .ok (.iconst (-1), 1) := by decide +kernel
theorem dX3_promiseLatest_3 : decode cX3_promiseLatest 3 = .ok (.istore 4, 2) := by decide +kernel
theorem dX3_promiseLatest_5 : decode cX3_promiseLatest 5 = .ok (.aload_n 0, 1) := by decide +kernel
theorem dX3_promiseLatest_6 : decode cX3_promiseLatest 6 = .ok (.getfield 11, 3) := by decide +kernel
theorem dX3_promiseLatest_9 : decode cX3_promiseLatest 9 = .ok (.arraylength, 1) := by decide +kernel
theorem dX3_promiseLatest_10 : decode cX3_promiseLatest 10 = .ok (.iconst 1, 1) := by decide +kernel
theorem dX3_promiseLatest_11 : decode cX3_promiseLatest 11 = .ok (.isub, 1) := by decide +kernel
theorem dX3_promiseLatest_12 : decode cX3_promiseLatest 12 = .ok (.istore 5, 2) := by decide +kernel
theorem dX3_promiseLatest_14 : decode cX3_promiseLatest 14 = .ok (.iload 5, 2) := by decide +kernel
theorem dX3_promiseLatest_16 : decode cX3_promiseLatest 16 = .ok (.ifCond .lt 55, 3) := by decide +kernel
theorem dX3_promiseLatest_19 : decode cX3_promiseLatest 19 = .ok (.iload_n 3, 1) := by decide +kernel
theorem dX3_promiseLatest_20 : decode cX3_promiseLatest 20 = .ok (.ifCond .le 51, 3) := by decide +kernel
theorem dX3_promiseLatest_23 : decode cX3_promiseLatest 23 = .ok (.aload_n 0, 1) := by decide +kernel
theorem dX3_promiseLatest_24 : decode cX3_promiseLatest 24 = .ok (.getfield 11, 3) := by decide +kernel
theorem dX3_promiseLatest_27 : decode cX3_promiseLatest 27 = .ok (.iload 5, 2) := by decide +kernel
theorem dX3_promiseLatest_29 : decode cX3_promiseLatest 29 = .ok (.aaload, 1) := by decide +kernel
theorem dX3_promiseLatest_30 : decode cX3_promiseLatest 30 = .ok (.astore 6, 2) := by decide +kernel
theorem dX3_promiseLatest_32 : decode cX3_promiseLatest 32 = .ok (.aload 6, 2) := by decide +kernel
theorem dX3_promiseLatest_34 : decode cX3_promiseLatest 34 = .ok (.ifnull 31, 3) := by decide +kernel
theorem dX3_promiseLatest_37 : decode cX3_promiseLatest 37 = .ok (.aload 6, 2) := by decide +kernel
theorem dX3_promiseLatest_39 : decode cX3_promiseLatest 39 = .ok (.iload_n 1, 1) := by decide +kernel
theorem dX3_promiseLatest_40 : decode cX3_promiseLatest 40 = .ok (.invokevirtual 48, 3) := by decide +kernel
theorem dX3_promiseLatest_43 : decode cX3_promiseLatest 43 = .ok (.iload 4, 2) := by decide +kernel
theorem dX3_promiseLatest_45 : decode cX3_promiseLatest 45 = .ok (.if_icmp .eq 20, 3) := by decide +kernel
theorem dX3_promiseLatest_48 : decode cX3_promiseLatest 48 = .ok (.aload 6, 2) := by decide +kernel
theorem dX3_promiseLatest_50 : decode cX3_promiseLatest 50 = .ok (.iload_n 1, 1) := by decide +kernel
theorem dX3_promiseLatest_51 : decode cX3_promiseLatest 51 = .ok (.invokevirtual 48, 3) := by decide +kernel
theorem dX3_promiseLatest_54 : decode cX3_promiseLatest 54 = .ok (.istore 4, 2) := by decide +kernel
theorem dX3_promiseLatest_56 : decode cX3_promiseLatest 56 = .ok (.aload 6, 2) := by decide +kernel
theorem dX3_promiseLatest_58 : decode cX3_promiseLatest 58 = .ok (.iconst 1, 1) := by decide +kernel
theorem dX3_promiseLatest_59 : decode cX3_promiseLatest 59 = .ok (.putfield 34, 3) := by decide +kernel
theorem dX3_promiseLatest_62 : decode cX3_promiseLatest 62 = .ok (.iinc 3 (-1), 3) := by decide +kernel
theorem dX3_promiseLatest_65 : decode cX3_promiseLatest 65 = .ok (.iinc 5 (-1), 3) := by decide +kernel
theorem dX3_promiseLatest_68 : decode cX3_promiseLatest 68 = .ok (.goto (-54), 3) := by decide +kernel
theorem dX3_promiseLatest_71 : decode cX3_promiseLatest 71 = .ok (.return_, 1) := by decide +kernel
theorem dX3_countPromised_0 : decode cX3_countPromised 0 = .ok (.aload_n 0, 1) := by decide +kernel
theorem dX3_countPromised_1 : decode cX3_countPromised 1 = .ok (.invokevirtual 52, 3) := by decide +kernel
theorem dX3_countPromised_4 : decode cX3_countPromised 4 = .ok (.iconst 0, 1) := by decide +kernel
theorem dX3_countPromised_5 : decode cX3_countPromised 5 = .ok (.istore_n 1, 1) := by decide +kernel
theorem dX3_countPromised_6 : decode cX3_countPromised 6 = .ok (.aload_n 0, 1) := by decide +kernel
theorem dX3_countPromised_7 : decode cX3_countPromised 7 = .ok (.getfield 11, 3) := by decide +kernel
theorem dX3_countPromised_10 : decode cX3_countPromised 10 = .ok (.astore_n 2, 1) := by decide +kernel
theorem dX3_countPromised_11 : decode cX3_countPromised 11 = .ok (.aload_n 2, 1) := by decide +kernel
theorem dX3_countPromised_12 : decode cX3_countPromised 12 = .ok (.arraylength, 1) := by decide +kernel
theorem dX3_countPromised_13 : decode cX3_countPromised 13 = .ok (.istore_n 3, 1) := by decide +kernel
theorem dX3_countPromised_14 : decode cX3_countPromised 14 = .ok (.iconst 0, 1) := by decide +kernel
theorem dX3_countPromised_15 : decode cX3_countPromised 15 = .ok (.istore 4, 2) := by decide +kernel
theorem dX3_countPromised_17 : decode cX3_countPromised 17 = .ok (.iload 4, 2) := by decide +kernel
theorem dX3_countPromised_19 : decode cX3_countPromised 19 = .ok (.iload_n 3, 1) := by decide +kernel
theorem dX3_countPromised_20 : decode cX3_countPromised 20 = .ok (.if_icmp .ge 31, 3) := by decide +kernel
theorem dX3_countPromised_23 : decode cX3_countPromised 23 = .ok (.aload_n 2, 1) := by decide +kernel
theorem dX3_countPromised_24 : decode cX3_countPromised 24 = .ok (.iload 4, 2) := by decide +kernel
theorem dX3_countPromised_26 : decode cX3_countPromised 26 = .ok (.aaload, 1) := by decide +kernel
theorem dX3_countPromised_27 : decode cX3_countPromised 27 = .ok (.astore 5, 2) := by decide +kernel
theorem dX3_countPromised_29 : decode cX3_countPromised 29 = .ok (.aload 5, 2) := by decide +kernel
theorem dX3_countPromised_31 : decode cX3_countPromised 31 = .ok (.ifnull 14, 3) := by decide +kernel
theorem dX3_countPromised_34 : decode cX3_countPromised 34 = .ok (.aload 5, 2) := by decide +kernel
theorem dX3_countPromised_36 : decode cX3_countPromised 36 = .ok (.getfield 34, 3) := by decide +kernel
theorem dX3_countPromised_39 : decode cX3_countPromised 39 = .ok (.ifCond .eq 6, 3) := by decide +kernel
theorem dX3_countPromised_42 : decode cX3_countPromised 42 = .ok (.iinc 1 1, 3) := by decide +kernel
theorem dX3_countPromised_45 : decode cX3_countPromised 45 = .ok (.iinc 4 1, 3) := by decide +kernel
theorem dX3_countPromised_48 : decode cX3_countPromised 48 = .ok (.goto (-31), 3) := by decide +kernel
theorem dX3_countPromised_51 : decode cX3_countPromised 51 = .ok (.iload_n 1, 1) := by decide +kernel
theorem dX3_countPromised_52 : decode cX3_countPromised 52 = .ok (.ireturn, 1) := by decide +kernel
theorem dX3_countPromisedButDamaged_0 : decode cX3_countPromisedButDamaged 0 = .ok (.aload_n 0, 1) := by decide +kernel
theorem dX3_countPromisedButDamaged_1 : decode cX3_countPromisedButDamaged 1 = .ok (.invokevirtual 52, 3) := by decide +kernel
theorem dX3_countPromisedButDamaged_4 : decode cX3_countPromisedButDamaged 4 = .ok (.iconst 0, 1) := by decide +kernel
theorem dX3_countPromisedButDamaged_5 : decode cX3_countPromisedButDamaged 5 = .ok (.istore_n 1, 1) := by decide +kernel
theorem dX3_countPromisedButDamaged_6 : decode cX3_countPromisedButDamaged 6 = .ok (.aload_n 0, 1) := by decide +kernel
theorem dX3_countPromisedButDamaged_7 : decode cX3_countPromisedButDamaged 7 = .ok (.getfield 11, 3) := by decide +kernel
theorem dX3_countPromisedButDamaged_10 : decode cX3_countPromisedButDamaged 10 = .ok (.astore_n 2, 1) := by decide +kernel
theorem dX3_countPromisedButDamaged_11 : decode cX3_countPromisedButDamaged 11 = .ok (.aload_n 2, 1) := by decide +kernel
theorem dX3_countPromisedButDamaged_12 : decode cX3_countPromisedButDamaged 12 = .ok (.arraylength, 1) := by decide +kernel
theorem dX3_countPromisedButDamaged_13 : decode cX3_countPromisedButDamaged 13 = .ok (.istore_n 3, 1) := by decide +kernel
theorem dX3_countPromisedButDamaged_14 : decode cX3_countPromisedButDamaged 14 = .ok (.iconst 0, 1) := by decide +kernel
theorem dX3_countPromisedButDamaged_15 : decode cX3_countPromisedButDamaged 15 = .ok (.istore 4, 2) := by decide +kernel
theorem dX3_countPromisedButDamaged_17 : decode cX3_countPromisedButDamaged 17 = .ok (.iload 4, 2) := by decide +kernel
theorem dX3_countPromisedButDamaged_19 : decode cX3_countPromisedButDamaged 19 = .ok (.iload_n 3, 1) := by decide +kernel
theorem dX3_countPromisedButDamaged_20 : decode cX3_countPromisedButDamaged 20 = .ok (.if_icmp .ge 39, 3) := by decide +kernel
theorem dX3_countPromisedButDamaged_23 : decode cX3_countPromisedButDamaged 23 = .ok (.aload_n 2, 1) := by decide +kernel
theorem dX3_countPromisedButDamaged_24 : decode cX3_countPromisedButDamaged 24 = .ok (.iload 4, 2) := by decide +kernel
theorem dX3_countPromisedButDamaged_26 : decode cX3_countPromisedButDamaged 26 = .ok (.aaload, 1) := by decide +kernel
theorem dX3_countPromisedButDamaged_27 : decode cX3_countPromisedButDamaged 27 = .ok (.astore 5, 2) := by decide +kernel
theorem dX3_countPromisedButDamaged_29 : decode cX3_countPromisedButDamaged 29 = .ok (.aload 5, 2) := by decide +kernel
theorem dX3_countPromisedButDamaged_31 : decode cX3_countPromisedButDamaged 31 = .ok (.ifnull 22, 3) := by decide +kernel
theorem dX3_countPromisedButDamaged_34 : decode cX3_countPromisedButDamaged 34 = .ok (.aload 5, 2) := by decide +kernel
theorem dX3_countPromisedButDamaged_36 : decode cX3_countPromisedButDamaged 36 = .ok (.getfield 34, 3) := by decide +kernel
theorem dX3_countPromisedButDamaged_39 : decode cX3_countPromisedButDamaged 39 = .ok (.ifCond .eq 14, 3) := by decide +kernel
theorem dX3_countPromisedButDamaged_42 : decode cX3_countPromisedButDamaged 42 = .ok (.aload 5, 2) := by decide +kernel
theorem dX3_countPromisedButDamaged_44 : decode cX3_countPromisedButDamaged 44 = .ok (.invokevirtual 55, 3) := by decide +kernel
theorem dX3_countPromisedButDamaged_47 : decode cX3_countPromisedButDamaged 47 = .ok (.ifCond .eq 6, 3) := by decide +kernel
theorem dX3_countPromisedButDamaged_50 : decode cX3_countPromisedButDamaged 50 = .ok (.iinc 1 1, 3) := by decide +kernel
theorem dX3_countPromisedButDamaged_53 : decode cX3_countPromisedButDamaged 53 = .ok (.iinc 4 1, 3) := by decide +kernel
theorem dX3_countPromisedButDamaged_56 : decode cX3_countPromisedButDamaged 56 = .ok (.goto (-39), 3) := by decide +kernel
theorem dX3_countPromisedButDamaged_59 : decode cX3_countPromisedButDamaged 59 = .ok (.iload_n 1, 1) := by decide +kernel
theorem dX3_countPromisedButDamaged_60 : decode cX3_countPromisedButDamaged 60 = .ok (.ireturn, 1) := by decide +kernel
theorem dX3_takeOffLoose_0 : decode cX3_takeOffLoose 0 = .ok (.aload_n 0, 1) := by decide +kernel
theorem dX3_takeOffLoose_1 : decode cX3_takeOffLoose 1 = .ok (.invokevirtual 52, 3) := by decide +kernel
theorem dX3_takeOffLoose_4 : decode cX3_takeOffLoose 4 = .ok (.aload_n 0, 1) := by decide +kernel
theorem dX3_takeOffLoose_5 : decode cX3_takeOffLoose 5 = .ok (.aload_n 0, 1) := by decide +kernel
theorem dX3_takeOffLoose_6 : decode cX3_takeOffLoose 6 = .ok (.invokevirtual 59, 3) := by decide +kernel
theorem dX3_takeOffLoose_9 : decode cX3_takeOffLoose 9 = .ok (.invokevirtual 62, 3) := by decide +kernel
theorem dX3_takeOffLoose_12 : decode cX3_takeOffLoose 12 = .ok (.iconst 0, 1) := by decide +kernel
theorem dX3_takeOffLoose_13 : decode cX3_takeOffLoose 13 = .ok (.istore_n 1, 1) := by decide +kernel
theorem dX3_takeOffLoose_14 : decode cX3_takeOffLoose 14 = .ok (.iconst 0, 1) := by decide +kernel
theorem dX3_takeOffLoose_15 : decode cX3_takeOffLoose 15 = .ok (.istore_n 2, 1) := by decide +kernel
theorem dX3_takeOffLoose_16 : decode cX3_takeOffLoose 16 = .ok (.iload_n 2, 1) := by decide +kernel
theorem dX3_takeOffLoose_17 : decode cX3_takeOffLoose 17 = .ok (.aload_n 0, 1) := by decide +kernel
theorem dX3_takeOffLoose_18 : decode cX3_takeOffLoose 18 = .ok (.getfield 11, 3) := by decide +kernel
theorem dX3_takeOffLoose_21 : decode cX3_takeOffLoose 21 = .ok (.arraylength, 1) := by decide +kernel
theorem dX3_takeOffLoose_22 : decode cX3_takeOffLoose 22 = .ok (.if_icmp .ge 41, 3) := by decide +kernel
theorem dX3_takeOffLoose_25 : decode cX3_takeOffLoose 25 = .ok (.aload_n 0, 1) := by decide +kernel
theorem dX3_takeOffLoose_26 : decode cX3_takeOffLoose 26 = .ok (.getfield 11, 3) := by decide +kernel
theorem dX3_takeOffLoose_29 : decode cX3_takeOffLoose 29 = .ok (.iload_n 2, 1) := by decide +kernel
theorem dX3_takeOffLoose_30 : decode cX3_takeOffLoose 30 = .ok (.aaload, 1) := by decide +kernel
theorem dX3_takeOffLoose_31 : decode cX3_takeOffLoose 31 = .ok (.astore_n 3, 1) := by decide +kernel
theorem dX3_takeOffLoose_32 : decode cX3_takeOffLoose 32 = .ok (.aload_n 3, 1) := by decide +kernel
theorem dX3_takeOffLoose_33 : decode cX3_takeOffLoose 33 = .ok (.ifnull 24, 3) := by decide +kernel
theorem dX3_takeOffLoose_36 : decode cX3_takeOffLoose 36 = .ok (.aload_n 3, 1) := by decide +kernel
theorem dX3_takeOffLoose_37 : decode cX3_takeOffLoose 37 = .ok (.getfield 66, 3) := by decide +kernel
theorem dX3_takeOffLoose_40 : decode cX3_takeOffLoose 40 = .ok (.ifCond .ne 17, 3) := by decide +kernel
theorem dX3_takeOffLoose_43 : decode cX3_takeOffLoose 43 = .ok (.iload_n 1, 1) := by decide +kernel
theorem dX3_takeOffLoose_44 : decode cX3_takeOffLoose 44 = .ok (.aload_n 3, 1) := by decide +kernel
theorem dX3_takeOffLoose_45 : decode cX3_takeOffLoose 45 = .ok (.invokevirtual 30, 3) := by decide +kernel
theorem dX3_takeOffLoose_48 : decode cX3_takeOffLoose 48 = .ok (.iadd, 1) := by decide +kernel
theorem dX3_takeOffLoose_49 : decode cX3_takeOffLoose 49 = .ok (.istore_n 1, 1) := by decide +kernel
theorem dX3_takeOffLoose_50 : decode cX3_takeOffLoose 50 = .ok (.aload_n 0, 1) := by decide +kernel
theorem dX3_takeOffLoose_51 : decode cX3_takeOffLoose 51 = .ok (.getfield 11, 3) := by decide +kernel
theorem dX3_takeOffLoose_54 : decode cX3_takeOffLoose 54 = .ok (.iload_n 2, 1) := by decide +kernel
theorem dX3_takeOffLoose_55 : decode cX3_takeOffLoose 55 = .ok (.aconst_null, 1) := by decide +kernel
theorem dX3_takeOffLoose_56 : decode cX3_takeOffLoose 56 = .ok (.aastore, 1) := by decide +kernel
theorem dX3_takeOffLoose_57 : decode cX3_takeOffLoose 57 = .ok (.iinc 2 1, 3) := by decide +kernel
theorem dX3_takeOffLoose_60 : decode cX3_takeOffLoose 60 = .ok (.goto (-44), 3) := by decide +kernel
theorem dX3_takeOffLoose_63 : decode cX3_takeOffLoose 63 = .ok (.iload_n 1, 1) := by decide +kernel
theorem dX3_takeOffLoose_64 : decode cX3_takeOffLoose 64 = .ok (.ireturn, 1) := by decide +kernel
theorem dX3_latestProvedDay_0 : decode cX3_latestProvedDay 0 = .ok (.iconst (-1), 1) := by decide +kernel
theorem dX3_latestProvedDay_1 : decode cX3_latestProvedDay 1 = .ok (.istore_n 1, 1) := by decide +kernel
theorem dX3_latestProvedDay_2 : decode cX3_latestProvedDay 2 = .ok (.aload_n 0, 1) := by decide +kernel
theorem dX3_latestProvedDay_3 : decode cX3_latestProvedDay 3 = .ok (.getfield 11, 3) := by decide +kernel
theorem dX3_latestProvedDay_6 : decode cX3_latestProvedDay 6 = .ok (.astore_n 2, 1) := by decide +kernel
theorem dX3_latestProvedDay_7 : decode cX3_latestProvedDay 7 = .ok (.aload_n 2, 1) := by decide +kernel
theorem dX3_latestProvedDay_8 : decode cX3_latestProvedDay 8 = .ok (.arraylength, 1) := by decide +kernel
theorem dX3_latestProvedDay_9 : decode cX3_latestProvedDay 9 = .ok (.istore_n 3, 1) := by decide +kernel
theorem dX3_latestProvedDay_10 : decode cX3_latestProvedDay 10 = .ok (.iconst 0, 1) := by decide +kernel
theorem dX3_latestProvedDay_11 : decode cX3_latestProvedDay 11 = .ok (.istore 4, 2) := by decide +kernel
theorem dX3_latestProvedDay_13 : decode cX3_latestProvedDay 13 = .ok (.iload 4, 2) := by decide +kernel
theorem dX3_latestProvedDay_15 : decode cX3_latestProvedDay 15 = .ok (.iload_n 3, 1) := by decide +kernel
theorem dX3_latestProvedDay_16 : decode cX3_latestProvedDay 16 = .ok (.if_icmp .ge 38, 3) := by decide +kernel
theorem dX3_latestProvedDay_19 : decode cX3_latestProvedDay 19 = .ok (.aload_n 2, 1) := by decide +kernel
theorem dX3_latestProvedDay_20 : decode cX3_latestProvedDay 20 = .ok (.iload 4, 2) := by decide +kernel
theorem dX3_latestProvedDay_22 : decode cX3_latestProvedDay 22 = .ok (.aaload, 1) := by decide +kernel
theorem dX3_latestProvedDay_23 : decode cX3_latestProvedDay 23 = .ok (.astore 5, 2) := by decide +kernel
theorem dX3_latestProvedDay_25 : decode cX3_latestProvedDay 25 = .ok (.aload 5, 2) := by decide +kernel
theorem dX3_latestProvedDay_27 : decode cX3_latestProvedDay 27 = .ok (.ifnull 21, 3) := by decide +kernel
theorem dX3_latestProvedDay_30 : decode cX3_latestProvedDay 30 = .ok (.aload 5, 2) := by decide +kernel
theorem dX3_latestProvedDay_32 : decode cX3_latestProvedDay 32 = .ok (.getfield 69, 3) := by decide +kernel
theorem dX3_latestProvedDay_35 : decode cX3_latestProvedDay 35 = .ok (.ifCond .eq 13, 3) := by decide +kernel
theorem dX3_latestProvedDay_38 : decode cX3_latestProvedDay 38 = .ok (.iload_n 1, 1) := by decide +kernel
theorem dX3_latestProvedDay_39 : decode cX3_latestProvedDay 39 = .ok (.aload 5, 2) := by decide +kernel
theorem dX3_latestProvedDay_41 : decode cX3_latestProvedDay 41 = .ok (.getfield 72, 3) := by decide +kernel
theorem dX3_latestProvedDay_44 : decode cX3_latestProvedDay 44 = .ok (.invokestatic 75, 3) := by decide +kernel
theorem dX3_latestProvedDay_47 : decode cX3_latestProvedDay 47 = .ok (.istore_n 1, 1) := by decide +kernel
theorem dX3_latestProvedDay_48 : decode cX3_latestProvedDay 48 = .ok (.iinc 4 1, 3) := by decide +kernel
theorem dX3_latestProvedDay_51 : decode cX3_latestProvedDay 51 = .ok (.goto (-38), 3) := by decide +kernel
theorem dX3_latestProvedDay_54 : decode cX3_latestProvedDay 54 = .ok (.iload_n 1, 1) := by decide +kernel
theorem dX3_latestProvedDay_55 : decode cX3_latestProvedDay 55 = .ok (.ireturn, 1) := by decide +kernel
theorem dX3_markHeld_0 : decode cX3_markHeld 0 = .ok (.aload_n 0, 1) := by decide +kernel
theorem dX3_markHeld_1 : decode cX3_markHeld 1 = .ok (.getfield 11, 3) := by decide +kernel
theorem dX3_markHeld_4 : decode cX3_markHeld 4 = .ok (.astore_n 2, 1) := by decide +kernel
theorem dX3_markHeld_5 : decode cX3_markHeld 5 = .ok (.aload_n 2, 1) := by decide +kernel
theorem dX3_markHeld_6 : decode cX3_markHeld 6 = .ok (.arraylength, 1) := by decide +kernel
theorem dX3_markHeld_7 : decode cX3_markHeld 7 = .ok (.istore_n 3, 1) := by decide +kernel
theorem dX3_markHeld_8 : decode cX3_markHeld 8 = .ok (.iconst 0, 1) := by decide +kernel
theorem dX3_markHeld_9 : decode cX3_markHeld 9 = .ok (.istore 4, 2) := by decide +kernel
theorem dX3_markHeld_11 : decode cX3_markHeld 11 = .ok (.iload 4, 2) := by decide +kernel
theorem dX3_markHeld_13 : decode cX3_markHeld 13 = .ok (.iload_n 3, 1) := by decide +kernel
theorem dX3_markHeld_14 : decode cX3_markHeld 14 = .ok (.if_icmp .ge 47, 3) := by decide +kernel
theorem dX3_markHeld_17 : decode cX3_markHeld 17 = .ok (.aload_n 2, 1) := by decide +kernel
theorem dX3_markHeld_18 : decode cX3_markHeld 18 = .ok (.iload 4, 2) := by decide +kernel
theorem dX3_markHeld_20 : decode cX3_markHeld 20 = .ok (.aaload, 1) := by decide +kernel
theorem dX3_markHeld_21 : decode cX3_markHeld 21 = .ok (.astore 5, 2) := by decide +kernel
theorem dX3_markHeld_23 : decode cX3_markHeld 23 = .ok (.aload 5, 2) := by decide +kernel
theorem dX3_markHeld_25 : decode cX3_markHeld 25 = .ok (.ifnull 30, 3) := by decide +kernel
theorem dX3_markHeld_28 : decode cX3_markHeld 28 = .ok (.aload 5, 2) := by decide +kernel
theorem dX3_markHeld_30 : decode cX3_markHeld 30 = .ok (.aload 5, 2) := by decide +kernel
theorem dX3_markHeld_32 : decode cX3_markHeld 32 = .ok (.getfield 38, 3) := by decide +kernel
theorem dX3_markHeld_35 : decode cX3_markHeld 35 = .ok (.ifCond .ne 12, 3) := by decide +kernel
theorem dX3_markHeld_38 : decode cX3_markHeld 38 = .ok (.aload 5, 2) := by decide +kernel
theorem dX3_markHeld_40 : decode cX3_markHeld 40 = .ok (.getfield 72, 3) := by decide +kernel
theorem dX3_markHeld_43 : decode cX3_markHeld 43 = .ok (.iload_n 1, 1) := by decide +kernel
theorem dX3_markHeld_44 : decode cX3_markHeld 44 = .ok (.if_icmp .lt 7, 3) := by decide +kernel
theorem dX3_markHeld_47 : decode cX3_markHeld 47 = .ok (.iconst 1, 1) := by decide +kernel
theorem dX3_markHeld_48 : decode cX3_markHeld 48 = .ok (.goto 4, 3) := by decide +kernel
theorem dX3_markHeld_51 : decode cX3_markHeld 51 = .ok (.iconst 0, 1) := by decide +kernel
theorem dX3_markHeld_52 : decode cX3_markHeld 52 = .ok (.putfield 66, 3) := by decide +kernel
theorem dX3_markHeld_55 : decode cX3_markHeld 55 = .ok (.iinc 4 1, 3) := by decide +kernel
theorem dX3_markHeld_58 : decode cX3_markHeld 58 = .ok (.goto (-47), 3) := by decide +kernel
theorem dX3_markHeld_61 : decode cX3_markHeld 61 = .ok (.aload_n 0, 1) := by decide +kernel
theorem dX3_markHeld_62 : decode cX3_markHeld 62 = .ok (.getfield 11, 3) := by decide +kernel
theorem dX3_markHeld_65 : decode cX3_markHeld 65 = .ok (.arraylength, 1) := by decide +kernel
theorem dX3_markHeld_66 : decode cX3_markHeld 66 = .ok (.iconst 1, 1) := by decide +kernel
theorem dX3_markHeld_67 : decode cX3_markHeld 67 = .ok (.isub, 1) := by decide +kernel
theorem dX3_markHeld_68 : decode cX3_markHeld 68 = .ok (.istore_n 2, 1) := by decide +kernel
theorem dX3_markHeld_69 : decode cX3_markHeld 69 = .ok (.iload_n 2, 1) := by decide +kernel
theorem dX3_markHeld_70 : decode cX3_markHeld 70 = .ok (.ifCond .lt 42, 3) := by decide +kernel
theorem dX3_markHeld_73 : decode cX3_markHeld 73 = .ok (.aload_n 0, 1) := by decide +kernel
theorem dX3_markHeld_74 : decode cX3_markHeld 74 = .ok (.getfield 11, 3) := by decide +kernel
theorem dX3_markHeld_77 : decode cX3_markHeld 77 = .ok (.iload_n 2, 1) := by decide +kernel
theorem dX3_markHeld_78 : decode cX3_markHeld 78 = .ok (.aaload, 1) := by decide +kernel
theorem dX3_markHeld_79 : decode cX3_markHeld 79 = .ok (.astore_n 3, 1) := by decide +kernel
theorem dX3_markHeld_80 : decode cX3_markHeld 80 = .ok (.aload_n 3, 1) := by decide +kernel
theorem dX3_markHeld_81 : decode cX3_markHeld 81 = .ok (.ifnull 25, 3) := by decide +kernel
theorem dX3_markHeld_84 : decode cX3_markHeld 84 = .ok (.aload_n 3, 1) := by decide +kernel
theorem dX3_markHeld_85 : decode cX3_markHeld 85 = .ok (.getfield 66, 3) := by decide +kernel
theorem dX3_markHeld_88 : decode cX3_markHeld 88 = .ok (.ifCond .eq 18, 3) := by decide +kernel
theorem dX3_markHeld_91 : decode cX3_markHeld 91 = .ok (.aload_n 3, 1) := by decide +kernel
theorem dX3_markHeld_92 : decode cX3_markHeld 92 = .ok (.getfield 81, 3) := by decide +kernel
theorem dX3_markHeld_95 : decode cX3_markHeld 95 = .ok (.ifnull 11, 3) := by decide +kernel
theorem dX3_markHeld_98 : decode cX3_markHeld 98 = .ok (.aload_n 3, 1) := by decide +kernel
theorem dX3_markHeld_99 : decode cX3_markHeld 99 = .ok (.getfield 81, 3) := by decide +kernel
theorem dX3_markHeld_102 : decode cX3_markHeld 102 = .ok (.iconst 1, 1) := by decide +kernel
theorem dX3_markHeld_103 : decode cX3_markHeld 103 = .ok (.putfield 66, 3) := by decide +kernel
theorem dX3_markHeld_106 : decode cX3_markHeld 106 = .ok (.iinc 2 (-1), 3) := by decide +kernel
theorem dX3_markHeld_109 : decode cX3_markHeld 109 = .ok (.goto (-40), 3) := by decide +kernel
theorem dX3_markHeld_112 : decode cX3_markHeld 112 = .ok (.return_, 1) := by decide +kernel
theorem dX4_init_0 : decode cX4_init 0 = .ok (.aload_n 0, 1) := by decide +kernel
theorem dX4_init_1 : decode cX4_init 1 = .ok (.invokespecial 1, 3) := by decide +kernel
theorem dX4_init_4 : decode cX4_init 4 = .ok (.aload_n 0, 1) := by decide +kernel
theorem dX4_init_5 : decode cX4_init 5 = .ok (.new 7, 3) := by decide +kernel
theorem dX4_init_8 : decode cX4_init 8 = .ok (.dup, 1) := by decide +kernel
theorem dX4_init_9 : decode cX4_init 9 = .ok (.invokespecial 9, 3) := by decide +kernel
theorem dX4_init_12 : decode cX4_init 12 = .ok (.putfield 10, 3) := by decide +kernel
theorem dX4_init_15 : decode cX4_init 15 = .ok (.aload_n 0, 1) := by decide +kernel
theorem dX4_init_16 : decode cX4_init 16 = .ok (.new 16, 3) := by decide +kernel
theorem dX4_init_19 : decode cX4_init 19 = .ok (.dup, 1) := by decide +kernel
theorem dX4_init_20 : decode cX4_init 20 = .ok (.invokespecial 18, 3) := by decide +kernel
theorem dX4_init_23 : decode cX4_init 23 = .ok (.putfield 19, 3) := by decide +kernel
theorem dX4_init_26 : decode cX4_init 26 = .ok (.aload_n 0, 1) := by decide +kernel
theorem dX4_init_27 : decode cX4_init 27 = .ok (.new 23, 3) := by decide +kernel
theorem dX4_init_30 : decode cX4_init 30 = .ok (.dup, 1) := by decide +kernel
theorem dX4_init_31 : decode cX4_init 31 = .ok (.invokespecial 25, 3) := by decide +kernel
theorem dX4_init_34 : decode cX4_init 34 = .ok (.putfield 26, 3) := by decide +kernel
theorem dX4_init_37 : decode cX4_init 37 = .ok (.aload_n 0, 1) := by decide +kernel
theorem dX4_init_38 : decode cX4_init 38 = .ok (.iconst 0, 1) := by decide +kernel
theorem dX4_init_39 : decode cX4_init 39 = .ok (.putfield 30, 3) := by decide +kernel
theorem dX4_init_42 : decode cX4_init 42 = .ok (.return_, 1) := by decide +kernel
theorem dX4_change_0 : decode cX4_change 0 = .ok (.iload_n 1, 1) := by decide +kernel
theorem dX4_change_1 : decode cX4_change 1 = .ok (.invokestatic 34, 3) := by decide +kernel
theorem dX4_change_4 : decode cX4_change 4 = .ok (.iload_n 2, 1) := by decide +kernel
theorem dX4_change_5 : decode cX4_change 5 = .ok (.ifCond .lt 9, 3) := by decide +kernel
theorem dX4_change_8 : decode cX4_change 8 = .ok (.iload_n 2, 1) := by decide +kernel
theorem dX4_change_9 : decode cX4_change 9 = .ok (.bipush 99, 2) := by decide +kernel
theorem dX4_change_11 : decode cX4_change 11 = .ok (.if_icmp .le 13, 3) := by decide +kernel
theorem dX4_change_14 : decode cX4_change 14 = .ok (.new 38, 3) := by decide +kernel
theorem dX4_change_17 : decode cX4_change 17 = .ok (.dup, 1) := by decide +kernel
theorem dX4_change_18 : decode cX4_change 18 = .ok (.ldc 40, 2) := by decide +kernel
theorem dX4_change_20 : decode cX4_change 20 = .ok (.invokespecial 42, 3) := by decide +kernel
theorem dX4_change_23 : decode cX4_change 23 = .ok (.athrow, 1) := by decide +kernel
theorem dX4_change_24 : decode cX4_change 24 = .ok (.aload_n 0, 1) := by decide +kernel
theorem dX4_change_25 : decode cX4_change 25 = .ok (.getfield 10, 3) := by decide +kernel
theorem dX4_change_28 : decode cX4_change 28 = .ok (.getfield 45, 3) := by decide +kernel
theorem dX4_change_31 : decode cX4_change 31 = .ok (.sipush 300, 3) := by decide +kernel
theorem dX4_change_34 : decode cX4_change 34 = .ok (.if_icmp .lt 13, 3) := by decide +kernel
theorem dX4_change_37 : decode cX4_change 37 = .ok (.new 48, 3) := by decide +kernel
theorem dX4_change_40 : decode cX4_change 40 = .ok (.dup, 1) := by decide +kernel
theorem dX4_change_41 : decode cX4_change 41 = .ok (.ldc 50, 2) := by decide +kernel
theorem dX4_change_43 : decode cX4_change 43 = .ok (.invokespecial 52, 3) := by decide +kernel
theorem dX4_change_46 : decode cX4_change 46 = .ok (.athrow, 1) := by decide +kernel
theorem dX4_change_47 : decode cX4_change 47 = .ok (.aload_n 0, 1) := by decide +kernel
theorem dX4_change_48 : decode cX4_change 48 = .ok (.getfield 10, 3) := by decide +kernel
theorem dX4_change_51 : decode cX4_change 51 = .ok (.iload_n 1, 1) := by decide +kernel
theorem dX4_change_52 : decode cX4_change 52 = .ok (.invokevirtual 53, 3) := by decide +kernel
theorem dX4_change_55 : decode cX4_change 55 = .ok (.istore_n 3, 1) := by decide +kernel
theorem dX4_change_56 : decode cX4_change 56 = .ok (.aload_n 0, 1) := by decide +kernel
theorem dX4_change_57 : decode cX4_change 57 = .ok (.getfield 10, 3) := by decide +kernel
theorem dX4_change_60 : decode cX4_change 60 = .ok (.iload_n 1, 1) := by decide +kernel
theorem dX4_change_61 : decode cX4_change 61 = .ok (.iload_n 2, 1) := by decide +kernel
theorem dX4_change_62 : decode cX4_change 62 = .ok (.invokevirtual 57, 3) := by decide +kernel
theorem dX4_change_65 : decode cX4_change 65 = .ok (.iload_n 3, 1) := by decide +kernel
theorem dX4_change_66 : decode cX4_change 66 = .ok (.ireturn, 1) := by decide +kernel
theorem dX4_pass_0 : decode cX4_pass 0 = .ok (.iload_n 1, 1) := by decide +kernel
theorem dX4_pass_1 : decode cX4_pass 1 = .ok (.iconst 1, 1) := by decide +kernel
theorem dX4_pass_2 : decode cX4_pass 2 = .ok (.if_icmp .lt 9, 3) := by decide +kernel
theorem dX4_pass_5 : decode cX4_pass 5 = .ok (.iload_n 1, 1) := by decide +kernel
theorem dX4_pass_6 : decode cX4_pass 6 = .ok (.bipush 30, 2) := by decide +kernel
theorem dX4_pass_8 : decode cX4_pass 8 = .ok (.if_icmp .le 13, 3) := by decide +kernel
theorem dX4_pass_11 : decode cX4_pass 11 = .ok (.new 38, 3) := by decide +kernel
theorem dX4_pass_14 : decode cX4_pass 14 = .ok (.dup, 1) := by decide +kernel
theorem dX4_pass_15 : decode cX4_pass 15 = .ok (.ldc 61, 2) := by decide +kernel
theorem dX4_pass_17 : decode cX4_pass 17 = .ok (.invokespecial 42, 3) := by decide +kernel
theorem dX4_pass_20 : decode cX4_pass 20 = .ok (.athrow, 1) := by decide +kernel
theorem dX4_pass_21 : decode cX4_pass 21 = .ok (.aload_n 0, 1) := by decide +kernel
theorem dX4_pass_22 : decode cX4_pass 22 = .ok (.getfield 30, 3) := by decide +kernel
theorem dX4_pass_25 : decode cX4_pass 25 = .ok (.iload_n 1, 1) := by decide +kernel
theorem dX4_pass_26 : decode cX4_pass 26 = .ok (.iadd, 1) := by decide +kernel
theorem dX4_pass_27 : decode cX4_pass 27 = .ok (.sipush 360, 3) := by decide +kernel
theorem dX4_pass_30 : decode cX4_pass 30 = .ok (.if_icmp .le 13, 3) := by decide +kernel
theorem dX4_pass_33 : decode cX4_pass 33 = .ok (.new 48, 3) := by decide +kernel
theorem dX4_pass_36 : decode cX4_pass 36 = .ok (.dup, 1) := by decide +kernel
theorem dX4_pass_37 : decode cX4_pass 37 = .ok (.ldc 63, 2) := by decide +kernel
theorem dX4_pass_39 : decode cX4_pass 39 = .ok (.invokespecial 52, 3) := by decide +kernel
theorem dX4_pass_42 : decode cX4_pass 42 = .ok (.athrow, 1) := by decide +kernel
theorem dX4_pass_43 : decode cX4_pass 43 = .ok (.aload_n 0, 1) := by decide +kernel
theorem dX4_pass_44 : decode cX4_pass 44 = .ok (.dup, 1) := by decide +kernel
theorem dX4_pass_45 : decode cX4_pass 45 = .ok (.getfield 30, 3) := by decide +kernel
theorem dX4_pass_48 : decode cX4_pass 48 = .ok (.iload_n 1, 1) := by decide +kernel
theorem dX4_pass_49 : decode cX4_pass 49 = .ok (.iadd, 1) := by decide +kernel
theorem dX4_pass_50 : decode cX4_pass 50 = .ok (.putfield 30, 3) := by decide +kernel
theorem dX4_pass_53 : decode cX4_pass 53 = .ok (.aload_n 0, 1) := by decide +kernel
theorem dX4_pass_54 : decode cX4_pass 54 = .ok (.getfield 30, 3) := by decide +kernel
theorem dX4_pass_57 : decode cX4_pass 57 = .ok (.ireturn, 1) := by decide +kernel
theorem dX4_full_0 : decode cX4_full 0 = .ok (.aload_n 0, 1) := by decide +kernel
theorem dX4_full_1 : decode cX4_full 1 = .ok (.getfield 19, 3) := by decide +kernel
theorem dX4_full_4 : decode cX4_full 4 = .ok (.getfield 65, 3) := by decide +kernel
theorem dX4_full_7 : decode cX4_full 7 = .ok (.bipush 60, 2) := by decide +kernel
theorem dX4_full_9 : decode cX4_full 9 = .ok (.if_icmp .lt 13, 3) := by decide +kernel
theorem dX4_full_12 : decode cX4_full 12 = .ok (.new 48, 3) := by decide +kernel
theorem dX4_full_15 : decode cX4_full 15 = .ok (.dup, 1) := by decide +kernel
theorem dX4_full_16 : decode cX4_full 16 = .ok (.ldc 68, 2) := by decide +kernel
theorem dX4_full_18 : decode cX4_full 18 = .ok (.invokespecial 52, 3) := by decide +kernel
theorem dX4_full_21 : decode cX4_full 21 = .ok (.athrow, 1) := by decide +kernel
theorem dX4_full_22 : decode cX4_full 22 = .ok (.new 70, 3) := by decide +kernel
theorem dX4_full_25 : decode cX4_full 25 = .ok (.dup, 1) := by decide +kernel
theorem dX4_full_26 : decode cX4_full 26 = .ok (.aload_n 0, 1) := by decide +kernel
theorem dX4_full_27 : decode cX4_full 27 = .ok (.getfield 19, 3) := by decide +kernel
theorem dX4_full_30 : decode cX4_full 30 = .ok (.getfield 65, 3) := by decide +kernel
theorem dX4_full_33 : decode cX4_full 33 = .ok (.aload_n 0, 1) := by decide +kernel
theorem dX4_full_34 : decode cX4_full 34 = .ok (.getfield 30, 3) := by decide +kernel
theorem dX4_full_37 : decode cX4_full 37 = .ok (.aconst_null, 1) := by decide +kernel
theorem dX4_full_38 : decode cX4_full 38 = .ok (.aload_n 0, 1) := by decide +kernel
theorem dX4_full_39 : decode cX4_full 39 = .ok (.getfield 10, 3) := by decide +kernel
theorem dX4_full_42 : decode cX4_full 42 = .ok (.getfield 45, 3) := by decide +kernel
theorem dX4_full_45 : decode cX4_full 45 = .ok (.invokespecial 72, 3) := by decide +kernel
theorem dX4_full_48 : decode cX4_full 48 = .ok (.astore_n 1, 1) := by decide +kernel
theorem dX4_full_49 : decode cX4_full 49 = .ok (.aload_n 0, 1) := by decide +kernel
theorem dX4_full_50 : decode cX4_full 50 = .ok (.getfield 10, 3) := by decide +kernel
theorem dX4_full_53 : decode cX4_full 53 = .ok (.aload_n 1, 1) := by decide +kernel
theorem dX4_full_54 : decode cX4_full 54 = .ok (.invokevirtual 75, 3) := by decide +kernel
theorem dX4_full_57 : decode cX4_full 57 = .ok (.aload_n 0, 1) := by decide +kernel
theorem dX4_full_58 : decode cX4_full 58 = .ok (.getfield 19, 3) := by decide +kernel
theorem dX4_full_61 : decode cX4_full 61 = .ok (.aload_n 1, 1) := by decide +kernel
theorem dX4_full_62 : decode cX4_full 62 = .ok (.invokevirtual 79, 3) := by decide +kernel
theorem dX4_full_65 : decode cX4_full 65 = .ok (.aload_n 1, 1) := by decide +kernel
theorem dX4_full_66 : decode cX4_full 66 = .ok (.getfield 82, 3) := by decide +kernel
theorem dX4_full_69 : decode cX4_full 69 = .ok (.ireturn, 1) := by decide +kernel
theorem dX4_increment_0 : decode cX4_increment 0 = .ok (.aload_n 0, 1) := by decide +kernel
theorem dX4_increment_1 : decode cX4_increment 1 = .ok (.getfield 19, 3) := by decide +kernel
theorem dX4_increment_4 : decode cX4_increment 4 = .ok (.invokevirtual 85, 3) := by decide +kernel
theorem dX4_increment_7 : decode cX4_increment 7 = .ok (.astore_n 1, 1) := by decide +kernel
theorem dX4_increment_8 : decode cX4_increment 8 = .ok (.aload_n 0, 1) := by decide +kernel
theorem dX4_increment_9 : decode cX4_increment 9 = .ok (.getfield 19, 3) := by decide +kernel
theorem dX4_increment_12 : decode cX4_increment 12 = .ok (.getfield 65, 3) := by decide +kernel
theorem dX4_increment_15 : decode cX4_increment 15 = .ok (.bipush 60, 2) := by decide +kernel
theorem dX4_increment_17 : decode cX4_increment 17 = .ok (.if_icmp .ge 7, 3) := by decide +kernel
theorem dX4_increment_20 : decode cX4_increment 20 = .ok (.aload_n 1, 1) := by decide +kernel
theorem dX4_increment_21 : decode cX4_increment 21 = .ok (.ifnonnull 13, 3) := by decide +kernel
theorem dX4_increment_24 : decode cX4_increment 24 = .ok (.new 48, 3) := by decide +kernel
theorem dX4_increment_27 : decode cX4_increment 27 = .ok (.dup, 1) := by decide +kernel
theorem dX4_increment_28 : decode cX4_increment 28 = .ok (.ldc 89, 2) := by decide +kernel
theorem dX4_increment_30 : decode cX4_increment 30 = .ok (.invokespecial 52, 3) := by decide +kernel
theorem dX4_increment_33 : decode cX4_increment 33 = .ok (.athrow, 1) := by decide +kernel
theorem dX4_increment_34 : decode cX4_increment 34 = .ok (.new 70, 3) := by decide +kernel
theorem dX4_increment_37 : decode cX4_increment 37 = .ok (.dup, 1) := by decide +kernel
theorem dX4_increment_38 : decode cX4_increment 38 = .ok (.aload_n 0, 1) := by decide +kernel
theorem dX4_increment_39 : decode cX4_increment 39 = .ok (.getfield 19, 3) := by decide +kernel
theorem dX4_increment_42 : decode cX4_increment 42 = .ok (.getfield 65, 3) := by decide +kernel
theorem dX4_increment_45 : decode cX4_increment 45 = .ok (.aload_n 0, 1) := by decide +kernel
theorem dX4_increment_46 : decode cX4_increment 46 = .ok (.getfield 30, 3) := by decide +kernel
theorem dX4_increment_49 : decode cX4_increment 49 = .ok (.aload_n 1, 1) := by decide +kernel
theorem dX4_increment_50 : decode cX4_increment 50 = .ok (.aload_n 0, 1) := by decide +kernel
theorem dX4_increment_51 : decode cX4_increment 51 = .ok (.getfield 10, 3) := by decide +kernel
theorem dX4_increment_54 : decode cX4_increment 54 = .ok (.getfield 45, 3) := by decide +kernel
theorem dX4_increment_57 : decode cX4_increment 57 = .ok (.invokespecial 72, 3) := by decide +kernel
theorem dX4_increment_60 : decode cX4_increment 60 = .ok (.astore_n 2, 1) := by decide +kernel
theorem dX4_increment_61 : decode cX4_increment 61 = .ok (.aload_n 0, 1) := by decide +kernel
theorem dX4_increment_62 : decode cX4_increment 62 = .ok (.getfield 10, 3) := by decide +kernel
theorem dX4_increment_65 : decode cX4_increment 65 = .ok (.aload_n 2, 1) := by decide +kernel
theorem dX4_increment_66 : decode cX4_increment 66 = .ok (.aload_n 1, 1) := by decide +kernel
theorem dX4_increment_67 : decode cX4_increment 67 = .ok (.getfield 91, 3) := by decide +kernel
theorem dX4_increment_70 : decode cX4_increment 70 = .ok (.invokevirtual 94, 3) := by decide +kernel
theorem dX4_increment_73 : decode cX4_increment 73 = .ok (.aload_n 0, 1) := by decide +kernel
theorem dX4_increment_74 : decode cX4_increment 74 = .ok (.getfield 19, 3) := by decide +kernel
theorem dX4_increment_77 : decode cX4_increment 77 = .ok (.aload_n 2, 1) := by decide +kernel
theorem dX4_increment_78 : decode cX4_increment 78 = .ok (.invokevirtual 79, 3) := by decide +kernel
theorem dX4_increment_81 : decode cX4_increment 81 = .ok (.aload_n 2, 1) := by decide +kernel
theorem dX4_increment_82 : decode cX4_increment 82 = .ok (.getfield 82, 3) := by decide +kernel
theorem dX4_increment_85 : decode cX4_increment 85 = .ok (.ireturn, 1) := by decide +kernel
theorem dX4_damage_0 : decode cX4_damage 0 = .ok (.aload_n 0, 1) := by decide +kernel
theorem dX4_damage_1 : decode cX4_damage 1 = .ok (.iload_n 1, 1) := by decide +kernel
theorem dX4_damage_2 : decode cX4_damage 2 = .ok (.invokevirtual 98, 3) := by decide +kernel
theorem dX4_damage_5 : decode cX4_damage 5 = .ok (.astore_n 2, 1) := by decide +kernel
theorem dX4_damage_6 : decode cX4_damage 6 = .ok (.aload_n 2, 1) := by decide +kernel
theorem dX4_damage_7 : decode cX4_damage 7 = .ok (.iconst 1, 1) := by decide +kernel
theorem dX4_damage_8 : decode cX4_damage 8 = .ok (.putfield 102, 3) := by decide +kernel
theorem dX4_damage_11 : decode cX4_damage 11 = .ok (.aload_n 2, 1) := by decide +kernel
theorem dX4_damage_12 : decode cX4_damage 12 = .ok (.iconst 0, 1) := by decide +kernel
theorem dX4_damage_13 : decode cX4_damage 13 = .ok (.putfield 106, 3) := by decide +kernel
theorem dX4_damage_16 : decode cX4_damage 16 = .ok (.aload_n 0, 1) := by decide +kernel
theorem dX4_damage_17 : decode cX4_damage 17 = .ok (.getfield 19, 3) := by decide +kernel
theorem dX4_damage_20 : decode cX4_damage 20 = .ok (.invokevirtual 109, 3) := by decide +kernel
theorem dX4_damage_23 : decode cX4_damage 23 = .ok (.ireturn, 1) := by decide +kernel
theorem dX4_drill_0 : decode cX4_drill 0 = .ok (.aload_n 0, 1) := by decide +kernel
theorem dX4_drill_1 : decode cX4_drill 1 = .ok (.iload_n 1, 1) := by decide +kernel
theorem dX4_drill_2 : decode cX4_drill 2 = .ok (.invokevirtual 98, 3) := by decide +kernel
theorem dX4_drill_5 : decode cX4_drill 5 = .ok (.astore_n 2, 1) := by decide +kernel
theorem dX4_drill_6 : decode cX4_drill 6 = .ok (.aload_n 2, 1) := by decide +kernel
theorem dX4_drill_7 : decode cX4_drill 7 = .ok (.invokevirtual 113, 3) := by decide +kernel
theorem dX4_drill_10 : decode cX4_drill 10 = .ok (.ifCond .ne 7, 3) := by decide +kernel
theorem dX4_drill_13 : decode cX4_drill 13 = .ok (.iconst 1, 1) := by decide +kernel
theorem dX4_drill_14 : decode cX4_drill 14 = .ok (.goto 4, 3) := by decide +kernel
theorem dX4_drill_17 : decode cX4_drill 17 = .ok (.iconst 0, 1) := by decide +kernel
theorem dX4_drill_18 : decode cX4_drill 18 = .ok (.istore_n 3, 1) := by decide +kernel
theorem dX4_drill_19 : decode cX4_drill 19 = .ok (.aload_n 2, 1) := by decide +kernel
theorem dX4_drill_20 : decode cX4_drill 20 = .ok (.iload_n 3, 1) := by decide +kernel
theorem dX4_drill_21 : decode cX4_drill 21 = .ok (.invokevirtual 117, 3) := by decide +kernel
theorem dX4_drill_24 : decode cX4_drill 24 = .ok (.iload_n 3, 1) := by decide +kernel
theorem dX4_drill_25 : decode cX4_drill 25 = .ok (.ifCond .eq 10, 3) := by decide +kernel
theorem dX4_drill_28 : decode cX4_drill 28 = .ok (.aload_n 2, 1) := by decide +kernel
theorem dX4_drill_29 : decode cX4_drill 29 = .ok (.invokevirtual 121, 3) := by decide +kernel
theorem dX4_drill_32 : decode cX4_drill 32 = .ok (.goto 4, 3) := by decide +kernel
theorem dX4_drill_35 : decode cX4_drill 35 = .ok (.iconst (-1), 1) := by decide +kernel
theorem dX4_drill_36 : decode cX4_drill 36 = .ok (.ireturn, 1) := by decide +kernel
theorem dX4_setRules_0 : decode cX4_setRules 0 = .ok (.iload_n 1, 1) := by decide +kernel
theorem dX4_setRules_1 : decode cX4_setRules 1 = .ok (.ifCond .lt 9, 3) := by decide +kernel
theorem dX4_setRules_4 : decode cX4_setRules 4 = .ok (.iload_n 1, 1) := by decide +kernel
theorem dX4_setRules_5 : decode cX4_setRules 5 = .ok (.bipush 30, 2) := by decide +kernel
theorem dX4_setRules_7 : decode cX4_setRules 7 = .ok (.if_icmp .le 13, 3) := by decide +kernel
theorem dX4_setRules_10 : decode cX4_setRules 10 = .ok (.new 38, 3) := by decide +kernel
theorem dX4_setRules_13 : decode cX4_setRules 13 = .ok (.dup, 1) := by decide +kernel
theorem dX4_setRules_14 : decode cX4_setRules 14 = .ok (.ldc 61, 2) := by decide +kernel
theorem dX4_setRules_16 : decode cX4_setRules 16 = .ok (.invokespecial 42, 3) := by decide +kernel
theorem dX4_setRules_19 : decode cX4_setRules 19 = .ok (.athrow, 1) := by decide +kernel
theorem dX4_setRules_20 : decode cX4_setRules 20 = .ok (.iload_n 2, 1) := by decide +kernel
theorem dX4_setRules_21 : decode cX4_setRules 21 = .ok (.ifCond .lt 9, 3) := by decide +kernel
theorem dX4_setRules_24 : decode cX4_setRules 24 = .ok (.iload_n 2, 1) := by decide +kernel
theorem dX4_setRules_25 : decode cX4_setRules 25 = .ok (.bipush 20, 2) := by decide +kernel
theorem dX4_setRules_27 : decode cX4_setRules 27 = .ok (.if_icmp .le 13, 3) := by decide +kernel
theorem dX4_setRules_30 : decode cX4_setRules 30 = .ok (.new 38, 3) := by decide +kernel
theorem dX4_setRules_33 : decode cX4_setRules 33 = .ok (.dup, 1) := by decide +kernel
theorem dX4_setRules_34 : decode cX4_setRules 34 = .ok (.ldc 124, 2) := by decide +kernel
theorem dX4_setRules_36 : decode cX4_setRules 36 = .ok (.invokespecial 42, 3) := by decide +kernel
theorem dX4_setRules_39 : decode cX4_setRules 39 = .ok (.athrow, 1) := by decide +kernel
theorem dX4_setRules_40 : decode cX4_setRules 40 = .ok (.iload_n 3, 1) := by decide +kernel
theorem dX4_setRules_41 : decode cX4_setRules 41 = .ok (.ifCond .lt 9, 3) := by decide +kernel
theorem dX4_setRules_44 : decode cX4_setRules 44 = .ok (.iload_n 3, 1) := by decide +kernel
theorem dX4_setRules_45 : decode cX4_setRules 45 = .ok (.bipush 12, 2) := by decide +kernel
theorem dX4_setRules_47 : decode cX4_setRules 47 = .ok (.if_icmp .le 13, 3) := by decide +kernel
theorem dX4_setRules_50 : decode cX4_setRules 50 = .ok (.new 38, 3) := by decide +kernel
theorem dX4_setRules_53 : decode cX4_setRules 53 = .ok (.dup, 1) := by decide +kernel
theorem dX4_setRules_54 : decode cX4_setRules 54 = .ok (.ldc 126, 2) := by decide +kernel
theorem dX4_setRules_56 : decode cX4_setRules 56 = .ok (.invokespecial 42, 3) := by decide +kernel
theorem dX4_setRules_59 : decode cX4_setRules 59 = .ok (.athrow, 1) := by decide +kernel
theorem dX4_setRules_60 : decode cX4_setRules 60 = .ok (.aload_n 0, 1) := by decide +kernel
theorem dX4_setRules_61 : decode cX4_setRules 61 = .ok (.getfield 19, 3) := by decide +kernel
theorem dX4_setRules_64 : decode cX4_setRules 64 = .ok (.iload_n 1, 1) := by decide +kernel
theorem dX4_setRules_65 : decode cX4_setRules 65 = .ok (.putfield 128, 3) := by decide +kernel
theorem dX4_setRules_68 : decode cX4_setRules 68 = .ok (.aload_n 0, 1) := by decide +kernel
theorem dX4_setRules_69 : decode cX4_setRules 69 = .ok (.getfield 19, 3) := by decide +kernel
theorem dX4_setRules_72 : decode cX4_setRules 72 = .ok (.iload_n 2, 1) := by decide +kernel
theorem dX4_setRules_73 : decode cX4_setRules 73 = .ok (.putfield 131, 3) := by decide +kernel
theorem dX4_setRules_76 : decode cX4_setRules 76 = .ok (.aload_n 0, 1) := by decide +kernel
theorem dX4_setRules_77 : decode cX4_setRules 77 = .ok (.getfield 19, 3) := by decide +kernel
theorem dX4_setRules_80 : decode cX4_setRules 80 = .ok (.iload_n 3, 1) := by decide +kernel
theorem dX4_setRules_81 : decode cX4_setRules 81 = .ok (.putfield 134, 3) := by decide +kernel
theorem dX4_setRules_84 : decode cX4_setRules 84 = .ok (.aload_n 0, 1) := by decide +kernel
theorem dX4_setRules_85 : decode cX4_setRules 85 = .ok (.getfield 19, 3) := by decide +kernel
theorem dX4_setRules_88 : decode cX4_setRules 88 = .ok (.invokevirtual 137, 3) := by decide +kernel
theorem dX4_setRules_91 : decode cX4_setRules 91 = .ok (.ireturn, 1) := by decide +kernel
theorem dX4_thin_0 : decode cX4_thin 0 = .ok (.aload_n 0, 1) := by decide +kernel
theorem dX4_thin_1 : decode cX4_thin 1 = .ok (.getfield 19, 3) := by decide +kernel
theorem dX4_thin_4 : decode cX4_thin 4 = .ok (.invokevirtual 140, 3) := by decide +kernel
theorem dX4_thin_7 : decode cX4_thin 7 = .ok (.ireturn, 1) := by decide +kernel
theorem dX4_day_0 : decode cX4_day 0 = .ok (.aload_n 0, 1) := by decide +kernel
theorem dX4_day_1 : decode cX4_day 1 = .ok (.getfield 30, 3) := by decide +kernel
theorem dX4_day_4 : decode cX4_day 4 = .ok (.ireturn, 1) := by decide +kernel
theorem dX4_copies_0 : decode cX4_copies 0 = .ok (.aload_n 0, 1) := by decide +kernel
theorem dX4_copies_1 : decode cX4_copies 1 = .ok (.getfield 19, 3) := by decide +kernel
theorem dX4_copies_4 : decode cX4_copies 4 = .ok (.invokevirtual 143, 3) := by decide +kernel
theorem dX4_copies_7 : decode cX4_copies 7 = .ok (.ireturn, 1) := by decide +kernel
theorem dX4_space_0 : decode cX4_space 0 = .ok (.aload_n 0, 1) := by decide +kernel
theorem dX4_space_1 : decode cX4_space 1 = .ok (.getfield 19, 3) := by decide +kernel
theorem dX4_space_4 : decode cX4_space 4 = .ok (.invokevirtual 146, 3) := by decide +kernel
theorem dX4_space_7 : decode cX4_space 7 = .ok (.ireturn, 1) := by decide +kernel
theorem dX4_dayOf_0 : decode cX4_dayOf 0 = .ok (.aload_n 0, 1) := by decide +kernel
theorem dX4_dayOf_1 : decode cX4_dayOf 1 = .ok (.iload_n 1, 1) := by decide +kernel
theorem dX4_dayOf_2 : decode cX4_dayOf 2 = .ok (.invokevirtual 98, 3) := by decide +kernel
theorem dX4_dayOf_5 : decode cX4_dayOf 5 = .ok (.getfield 149, 3) := by decide +kernel
theorem dX4_dayOf_8 : decode cX4_dayOf 8 = .ok (.ireturn, 1) := by decide +kernel
theorem dX4_baseOf_0 : decode cX4_baseOf 0 = .ok (.aload_n 0, 1) := by decide +kernel
theorem dX4_baseOf_1 : decode cX4_baseOf 1 = .ok (.iload_n 1, 1) := by decide +kernel
theorem dX4_baseOf_2 : decode cX4_baseOf 2 = .ok (.invokevirtual 98, 3) := by decide +kernel
theorem dX4_baseOf_5 : decode cX4_baseOf 5 = .ok (.getfield 152, 3) := by decide +kernel
theorem dX4_baseOf_8 : decode cX4_baseOf 8 = .ok (.astore_n 2, 1) := by decide +kernel
theorem dX4_baseOf_9 : decode cX4_baseOf 9 = .ok (.aload_n 2, 1) := by decide +kernel
theorem dX4_baseOf_10 : decode cX4_baseOf 10 = .ok (.ifnonnull 7, 3) := by decide +kernel
theorem dX4_baseOf_13 : decode cX4_baseOf 13 = .ok (.iconst (-1), 1) := by decide +kernel
theorem dX4_baseOf_14 : decode cX4_baseOf 14 = .ok (.goto 7, 3) := by decide +kernel
theorem dX4_baseOf_17 : decode cX4_baseOf 17 = .ok (.aload_n 2, 1) := by decide +kernel
theorem dX4_baseOf_18 : decode cX4_baseOf 18 = .ok (.getfield 82, 3) := by decide +kernel
theorem dX4_baseOf_21 : decode cX4_baseOf 21 = .ok (.ireturn, 1) := by decide +kernel
theorem dX4_keeps_0 : decode cX4_keeps 0 = .ok (.aload_n 0, 1) := by decide +kernel
theorem dX4_keeps_1 : decode cX4_keeps 1 = .ok (.iload_n 1, 1) := by decide +kernel
theorem dX4_keeps_2 : decode cX4_keeps 2 = .ok (.invokevirtual 98, 3) := by decide +kernel
theorem dX4_keeps_5 : decode cX4_keeps 5 = .ok (.getfield 156, 3) := by decide +kernel
theorem dX4_keeps_8 : decode cX4_keeps 8 = .ok (.ireturn, 1) := by decide +kernel
theorem dX4_isPromised_0 : decode cX4_isPromised 0 = .ok (.aload_n 0, 1) := by decide +kernel
theorem dX4_isPromised_1 : decode cX4_isPromised 1 = .ok (.iload_n 1, 1) := by decide +kernel
theorem dX4_isPromised_2 : decode cX4_isPromised 2 = .ok (.invokevirtual 98, 3) := by decide +kernel
theorem dX4_isPromised_5 : decode cX4_isPromised 5 = .ok (.astore_n 2, 1) := by decide +kernel
theorem dX4_isPromised_6 : decode cX4_isPromised 6 = .ok (.aload_n 0, 1) := by decide +kernel
theorem dX4_isPromised_7 : decode cX4_isPromised 7 = .ok (.getfield 19, 3) := by decide +kernel
theorem dX4_isPromised_10 : decode cX4_isPromised 10 = .ok (.invokevirtual 159, 3) := by decide +kernel
theorem dX4_isPromised_13 : decode cX4_isPromised 13 = .ok (.aload_n 2, 1) := by decide +kernel
theorem dX4_isPromised_14 : decode cX4_isPromised 14 = .ok (.getfield 162, 3) := by decide +kernel
theorem dX4_isPromised_17 : decode cX4_isPromised 17 = .ok (.ireturn, 1) := by decide +kernel
theorem dX4_isNeeded_0 : decode cX4_isNeeded 0 = .ok (.aload_n 0, 1) := by decide +kernel
theorem dX4_isNeeded_1 : decode cX4_isNeeded 1 = .ok (.iload_n 1, 1) := by decide +kernel
theorem dX4_isNeeded_2 : decode cX4_isNeeded 2 = .ok (.invokevirtual 98, 3) := by decide +kernel
theorem dX4_isNeeded_5 : decode cX4_isNeeded 5 = .ok (.astore_n 2, 1) := by decide +kernel
theorem dX4_isNeeded_6 : decode cX4_isNeeded 6 = .ok (.aload_n 0, 1) := by decide +kernel
theorem dX4_isNeeded_7 : decode cX4_isNeeded 7 = .ok (.getfield 19, 3) := by decide +kernel
theorem dX4_isNeeded_10 : decode cX4_isNeeded 10 = .ok (.invokevirtual 159, 3) := by decide +kernel
theorem dX4_isNeeded_13 : decode cX4_isNeeded 13 = .ok (.aload_n 2, 1) := by decide +kernel
theorem dX4_isNeeded_14 : decode cX4_isNeeded 14 = .ok (.getfield 165, 3) := by decide +kernel
theorem dX4_isNeeded_17 : decode cX4_isNeeded 17 = .ok (.ireturn, 1) := by decide +kernel
theorem dX4_isProved_0 : decode cX4_isProved 0 = .ok (.aload_n 0, 1) := by decide +kernel
theorem dX4_isProved_1 : decode cX4_isProved 1 = .ok (.iload_n 1, 1) := by decide +kernel
theorem dX4_isProved_2 : decode cX4_isProved 2 = .ok (.invokevirtual 98, 3) := by decide +kernel
theorem dX4_isProved_5 : decode cX4_isProved 5 = .ok (.getfield 106, 3) := by decide +kernel
theorem dX4_isProved_8 : decode cX4_isProved 8 = .ok (.ireturn, 1) := by decide +kernel
theorem dX4_restore_0 : decode cX4_restore 0 = .ok (.aload_n 0, 1) := by decide +kernel
theorem dX4_restore_1 : decode cX4_restore 1 = .ok (.iload_n 1, 1) := by decide +kernel
theorem dX4_restore_2 : decode cX4_restore 2 = .ok (.invokevirtual 98, 3) := by decide +kernel
theorem dX4_restore_5 : decode cX4_restore 5 = .ok (.astore_n 3, 1) := by decide +kernel
theorem dX4_restore_6 : decode cX4_restore 6 = .ok (.iload_n 2, 1) := by decide +kernel
theorem dX4_restore_7 : decode cX4_restore 7 = .ok (.invokestatic 34, 3) := by decide +kernel
theorem dX4_restore_10 : decode cX4_restore 10 = .ok (.aload_n 3, 1) := by decide +kernel
theorem dX4_restore_11 : decode cX4_restore 11 = .ok (.iload_n 2, 1) := by decide +kernel
theorem dX4_restore_12 : decode cX4_restore 12 = .ok (.invokevirtual 168, 3) := by decide +kernel
theorem dX4_restore_15 : decode cX4_restore 15 = .ok (.ireturn, 1) := by decide +kernel
theorem dX4_restoreByChanges_0 : decode cX4_restoreByChanges 0 = .ok (.aload_n 0, 1) := by decide +kernel
theorem dX4_restoreByChanges_1 : decode cX4_restoreByChanges 1 = .ok (.iload_n 1, 1) := by decide +kernel
theorem dX4_restoreByChanges_2 : decode cX4_restoreByChanges 2 = .ok (.invokevirtual 98, 3) := by decide +kernel
theorem dX4_restoreByChanges_5 : decode cX4_restoreByChanges 5 = .ok (.astore_n 3, 1) := by decide +kernel
theorem dX4_restoreByChanges_6 : decode cX4_restoreByChanges 6 = .ok (.iload_n 2, 1) := by decide +kernel
theorem dX4_restoreByChanges_7 : decode cX4_restoreByChanges 7 = .ok (.invokestatic 34, 3) := by decide +kernel
theorem dX4_restoreByChanges_10 : decode cX4_restoreByChanges 10 = .ok (.aload_n 0, 1) := by decide +kernel
theorem dX4_restoreByChanges_11 : decode cX4_restoreByChanges 11 = .ok (.getfield 10, 3) := by decide +kernel
theorem dX4_restoreByChanges_14 : decode cX4_restoreByChanges 14 = .ok (.aload_n 3, 1) := by decide +kernel
theorem dX4_restoreByChanges_15 : decode cX4_restoreByChanges 15 = .ok (.getfield 91, 3) := by decide +kernel
theorem dX4_restoreByChanges_18 : decode cX4_restoreByChanges 18 = .ok (.iload_n 2, 1) := by decide +kernel
theorem dX4_restoreByChanges_19 : decode cX4_restoreByChanges 19 = .ok (.invokevirtual 171, 3) := by decide +kernel
theorem dX4_restoreByChanges_22 : decode cX4_restoreByChanges 22 = .ok (.ireturn, 1) := by decide +kernel
theorem dX4_onCall_0 : decode cX4_onCall 0 = .ok (.iload_n 1, 1) := by decide +kernel
theorem dX4_onCall_1 : decode cX4_onCall 1 = .ok (.ifCond .lt 10, 3) := by decide +kernel
theorem dX4_onCall_4 : decode cX4_onCall 4 = .ok (.iload_n 1, 1) := by decide +kernel
theorem dX4_onCall_5 : decode cX4_onCall 5 = .ok (.sipush 364, 3) := by decide +kernel
theorem dX4_onCall_8 : decode cX4_onCall 8 = .ok (.if_icmp .le 13, 3) := by decide +kernel
theorem dX4_onCall_11 : decode cX4_onCall 11 = .ok (.new 38, 3) := by decide +kernel
theorem dX4_onCall_14 : decode cX4_onCall 14 = .ok (.dup, 1) := by decide +kernel
theorem dX4_onCall_15 : decode cX4_onCall 15 = .ok (.ldc 175, 2) := by decide +kernel
theorem dX4_onCall_17 : decode cX4_onCall 17 = .ok (.invokespecial 42, 3) := by decide +kernel
theorem dX4_onCall_20 : decode cX4_onCall 20 = .ok (.athrow, 1) := by decide +kernel
theorem dX4_onCall_21 : decode cX4_onCall 21 = .ok (.aload_n 0, 1) := by decide +kernel
theorem dX4_onCall_22 : decode cX4_onCall 22 = .ok (.getfield 26, 3) := by decide +kernel
theorem dX4_onCall_25 : decode cX4_onCall 25 = .ok (.iload_n 1, 1) := by decide +kernel
theorem dX4_onCall_26 : decode cX4_onCall 26 = .ok (.invokevirtual 177, 3) := by decide +kernel
theorem dX4_onCall_29 : decode cX4_onCall 29 = .ok (.ireturn, 1) := by decide +kernel
theorem dX4_swap_0 : decode cX4_swap 0 = .ok (.aload_n 0, 1) := by decide +kernel
theorem dX4_swap_1 : decode cX4_swap 1 = .ok (.iload_n 1, 1) := by decide +kernel
theorem dX4_swap_2 : decode cX4_swap 2 = .ok (.invokevirtual 180, 3) := by decide +kernel
theorem dX4_swap_5 : decode cX4_swap 5 = .ok (.ifCond .eq 16, 3) := by decide +kernel
theorem dX4_swap_8 : decode cX4_swap 8 = .ok (.aload_n 0, 1) := by decide +kernel
theorem dX4_swap_9 : decode cX4_swap 9 = .ok (.iload_n 2, 1) := by decide +kernel
theorem dX4_swap_10 : decode cX4_swap 10 = .ok (.invokevirtual 180, 3) := by decide +kernel
theorem dX4_swap_13 : decode cX4_swap 13 = .ok (.ifCond .eq 8, 3) := by decide +kernel
theorem dX4_swap_16 : decode cX4_swap 16 = .ok (.iload_n 1, 1) := by decide +kernel
theorem dX4_swap_17 : decode cX4_swap 17 = .ok (.iload_n 2, 1) := by decide +kernel
theorem dX4_swap_18 : decode cX4_swap 18 = .ok (.if_icmp .ne 13, 3) := by decide +kernel
theorem dX4_swap_21 : decode cX4_swap 21 = .ok (.new 38, 3) := by decide +kernel
theorem dX4_swap_24 : decode cX4_swap 24 = .ok (.dup, 1) := by decide +kernel
theorem dX4_swap_25 : decode cX4_swap 25 = .ok (.ldc 184, 2) := by decide +kernel
theorem dX4_swap_27 : decode cX4_swap 27 = .ok (.invokespecial 42, 3) := by decide +kernel
theorem dX4_swap_30 : decode cX4_swap 30 = .ok (.athrow, 1) := by decide +kernel
theorem dX4_swap_31 : decode cX4_swap 31 = .ok (.aload_n 0, 1) := by decide +kernel
theorem dX4_swap_32 : decode cX4_swap 32 = .ok (.getfield 26, 3) := by decide +kernel
theorem dX4_swap_35 : decode cX4_swap 35 = .ok (.iload_n 1, 1) := by decide +kernel
theorem dX4_swap_36 : decode cX4_swap 36 = .ok (.iload_n 2, 1) := by decide +kernel
theorem dX4_swap_37 : decode cX4_swap 37 = .ok (.invokevirtual 186, 3) := by decide +kernel
theorem dX4_swap_40 : decode cX4_swap 40 = .ok (.ifCond .ne 13, 3) := by decide +kernel
theorem dX4_swap_43 : decode cX4_swap 43 = .ok (.new 48, 3) := by decide +kernel
theorem dX4_swap_46 : decode cX4_swap 46 = .ok (.dup, 1) := by decide +kernel
theorem dX4_swap_47 : decode cX4_swap 47 = .ok (.ldc 190, 2) := by decide +kernel
theorem dX4_swap_49 : decode cX4_swap 49 = .ok (.invokespecial 52, 3) := by decide +kernel
theorem dX4_swap_52 : decode cX4_swap 52 = .ok (.athrow, 1) := by decide +kernel
theorem dX4_swap_53 : decode cX4_swap 53 = .ok (.aload_n 0, 1) := by decide +kernel
theorem dX4_swap_54 : decode cX4_swap 54 = .ok (.getfield 26, 3) := by decide +kernel
theorem dX4_swap_57 : decode cX4_swap 57 = .ok (.iload_n 1, 1) := by decide +kernel
theorem dX4_swap_58 : decode cX4_swap 58 = .ok (.invokevirtual 177, 3) := by decide +kernel
theorem dX4_swap_61 : decode cX4_swap 61 = .ok (.ireturn, 1) := by decide +kernel
theorem dX4_alarm_0 : decode cX4_alarm 0 = .ok (.iload_n 1, 1) := by decide +kernel
theorem dX4_alarm_1 : decode cX4_alarm 1 = .ok (.ifCond .lt 9, 3) := by decide +kernel
theorem dX4_alarm_4 : decode cX4_alarm 4 = .ok (.iload_n 1, 1) := by decide +kernel
theorem dX4_alarm_5 : decode cX4_alarm 5 = .ok (.bipush 31, 2) := by decide +kernel
theorem dX4_alarm_7 : decode cX4_alarm 7 = .ok (.if_icmp .le 13, 3) := by decide +kernel
theorem dX4_alarm_10 : decode cX4_alarm 10 = .ok (.new 38, 3) := by decide +kernel
theorem dX4_alarm_13 : decode cX4_alarm 13 = .ok (.dup, 1) := by decide +kernel
theorem dX4_alarm_14 : decode cX4_alarm 14 = .ok (.ldc 192, 2) := by decide +kernel
theorem dX4_alarm_16 : decode cX4_alarm 16 = .ok (.invokespecial 42, 3) := by decide +kernel
theorem dX4_alarm_19 : decode cX4_alarm 19 = .ok (.athrow, 1) := by decide +kernel
theorem dX4_alarm_20 : decode cX4_alarm 20 = .ok (.aload_n 0, 1) := by decide +kernel
theorem dX4_alarm_21 : decode cX4_alarm 21 = .ok (.getfield 26, 3) := by decide +kernel
theorem dX4_alarm_24 : decode cX4_alarm 24 = .ok (.aload_n 0, 1) := by decide +kernel
theorem dX4_alarm_25 : decode cX4_alarm 25 = .ok (.getfield 30, 3) := by decide +kernel
theorem dX4_alarm_28 : decode cX4_alarm 28 = .ok (.iload_n 1, 1) := by decide +kernel
theorem dX4_alarm_29 : decode cX4_alarm 29 = .ok (.invokevirtual 194, 3) := by decide +kernel
theorem dX4_alarm_32 : decode cX4_alarm 32 = .ok (.ireturn, 1) := by decide +kernel
theorem dX4_requireFile_0 : decode cX4_requireFile 0 = .ok (.iload_n 0, 1) := by decide +kernel
theorem dX4_requireFile_1 : decode cX4_requireFile 1 = .ok (.ifCond .lt 9, 3) := by decide +kernel
theorem dX4_requireFile_4 : decode cX4_requireFile 4 = .ok (.iload_n 0, 1) := by decide +kernel
theorem dX4_requireFile_5 : decode cX4_requireFile 5 = .ok (.bipush 10, 2) := by decide +kernel
theorem dX4_requireFile_7 : decode cX4_requireFile 7 = .ok (.if_icmp .lt 13, 3) := by decide +kernel
theorem dX4_requireFile_10 : decode cX4_requireFile 10 = .ok (.new 197, 3) := by decide +kernel
theorem dX4_requireFile_13 : decode cX4_requireFile 13 = .ok (.dup, 1) := by decide +kernel
theorem dX4_requireFile_14 : decode cX4_requireFile 14 = .ok (.ldc 199, 2) := by decide +kernel
theorem dX4_requireFile_16 : decode cX4_requireFile 16 = .ok (.invokespecial 201, 3) := by decide +kernel
theorem dX4_requireFile_19 : decode cX4_requireFile 19 = .ok (.athrow, 1) := by decide +kernel
theorem dX4_requireFile_20 : decode cX4_requireFile 20 = .ok (.return_, 1) := by decide +kernel
theorem dX4_requireCopy_0 : decode cX4_requireCopy 0 = .ok (.aload_n 0, 1) := by decide +kernel
theorem dX4_requireCopy_1 : decode cX4_requireCopy 1 = .ok (.getfield 19, 3) := by decide +kernel
theorem dX4_requireCopy_4 : decode cX4_requireCopy 4 = .ok (.iload_n 1, 1) := by decide +kernel
theorem dX4_requireCopy_5 : decode cX4_requireCopy 5 = .ok (.invokevirtual 202, 3) := by decide +kernel
theorem dX4_requireCopy_8 : decode cX4_requireCopy 8 = .ok (.astore_n 2, 1) := by decide +kernel
theorem dX4_requireCopy_9 : decode cX4_requireCopy 9 = .ok (.aload_n 2, 1) := by decide +kernel
theorem dX4_requireCopy_10 : decode cX4_requireCopy 10 = .ok (.ifnonnull 13, 3) := by decide +kernel
theorem dX4_requireCopy_13 : decode cX4_requireCopy 13 = .ok (.new 197, 3) := by decide +kernel
theorem dX4_requireCopy_16 : decode cX4_requireCopy 16 = .ok (.dup, 1) := by decide +kernel
theorem dX4_requireCopy_17 : decode cX4_requireCopy 17 = .ok (.ldc 205, 2) := by decide +kernel
theorem dX4_requireCopy_19 : decode cX4_requireCopy 19 = .ok (.invokespecial 201, 3) := by decide +kernel
theorem dX4_requireCopy_22 : decode cX4_requireCopy 22 = .ok (.athrow, 1) := by decide +kernel
theorem dX4_requireCopy_23 : decode cX4_requireCopy 23 = .ok (.aload_n 2, 1) := by decide +kernel
theorem dX4_requireCopy_24 : decode cX4_requireCopy 24 = .ok (.areturn, 1) := by decide +kernel
theorem dX4_isOpenForSwaps_0 : decode cX4_isOpenForSwaps 0 = .ok (.iload_n 1, 1) := by decide +kernel
theorem dX4_isOpenForSwaps_1 : decode cX4_isOpenForSwaps 1 = .ok (.aload_n 0, 1) := by decide +kernel
theorem dX4_isOpenForSwaps_2 : decode cX4_isOpenForSwaps 2 = .ok (.getfield 30, 3) := by decide +kernel
theorem dX4_isOpenForSwaps_5 : decode cX4_isOpenForSwaps 5 = .ok (.if_icmp .lt 14, 3) := by decide +kernel
theorem dX4_isOpenForSwaps_8 : decode cX4_isOpenForSwaps 8 = .ok (.iload_n 1, 1) := by decide +kernel
theorem dX4_isOpenForSwaps_9 : decode cX4_isOpenForSwaps 9 = .ok (.sipush 364, 3) := by decide +kernel
theorem dX4_isOpenForSwaps_12 : decode cX4_isOpenForSwaps 12 = .ok (.if_icmp .gt 7, 3) := by decide +kernel
theorem dX4_isOpenForSwaps_15 : decode cX4_isOpenForSwaps 15 = .ok (.iconst 1, 1) := by decide +kernel
theorem dX4_isOpenForSwaps_16 : decode cX4_isOpenForSwaps 16 = .ok (.goto 4, 3) := by decide +kernel
theorem dX4_isOpenForSwaps_19 : decode cX4_isOpenForSwaps 19 = .ok (.iconst 0, 1) := by decide +kernel
theorem dX4_isOpenForSwaps_20 : decode cX4_isOpenForSwaps 20 = .ok (.ireturn, 1) := by decide +kernel
theorem dX5_init_0 : decode cX5_init 0 = .ok (.aload_n 0, 1) := by decide +kernel
theorem dX5_init_1 : decode cX5_init 1 = .ok (.invokespecial 1, 3) := by decide +kernel
theorem dX5_init_4 : decode cX5_init 4 = .ok (.aload_n 0, 1) := by decide +kernel
theorem dX5_init_5 : decode cX5_init 5 = .ok (.bipush 10, 2) := by decide +kernel
theorem dX5_init_7 : decode cX5_init 7 = .ok (.newarray .int, 2) := by decide +kernel
theorem dX5_init_9 : decode cX5_init 9 = .ok (.putfield 7, 3) := by decide +kernel
theorem dX5_init_12 : decode cX5_init 12 = .ok (.aload_n 0, 1) := by decide +kernel
theorem dX5_init_13 : decode cX5_init 13 = .ok (.bipush 10, 2) := by decide +kernel
theorem dX5_init_15 : decode cX5_init 15 = .ok (.newarray .int, 2) := by decide +kernel
theorem dX5_init_17 : decode cX5_init 17 = .ok (.putfield 13, 3) := by decide +kernel
theorem dX5_init_20 : decode cX5_init 20 = .ok (.aload_n 0, 1) := by decide +kernel
theorem dX5_init_21 : decode cX5_init 21 = .ok (.bipush 60, 2) := by decide +kernel
theorem dX5_init_23 : decode cX5_init 23 = .ok (.newarray .int, 2) := by decide +kernel
theorem dX5_init_25 : decode cX5_init 25 = .ok (.putfield 16, 3) := by decide +kernel
theorem dX5_init_28 : decode cX5_init 28 = .ok (.aload_n 0, 1) := by decide +kernel
theorem dX5_init_29 : decode cX5_init 29 = .ok (.bipush 60, 2) := by decide +kernel
theorem dX5_init_31 : decode cX5_init 31 = .ok (.newarray .int, 2) := by decide +kernel
theorem dX5_init_33 : decode cX5_init 33 = .ok (.putfield 19, 3) := by decide +kernel
theorem dX5_init_36 : decode cX5_init 36 = .ok (.aload_n 0, 1) := by decide +kernel
theorem dX5_init_37 : decode cX5_init 37 = .ok (.bipush 60, 2) := by decide +kernel
theorem dX5_init_39 : decode cX5_init 39 = .ok (.newarray .int, 2) := by decide +kernel
theorem dX5_init_41 : decode cX5_init 41 = .ok (.putfield 22, 3) := by decide +kernel
theorem dX5_init_44 : decode cX5_init 44 = .ok (.aload_n 0, 1) := by decide +kernel
theorem dX5_init_45 : decode cX5_init 45 = .ok (.bipush 60, 2) := by decide +kernel
theorem dX5_init_47 : decode cX5_init 47 = .ok (.newarray .int, 2) := by decide +kernel
theorem dX5_init_49 : decode cX5_init 49 = .ok (.putfield 25, 3) := by decide +kernel
theorem dX5_init_52 : decode cX5_init 52 = .ok (.aload_n 0, 1) := by decide +kernel
theorem dX5_init_53 : decode cX5_init 53 = .ok (.sipush 600, 3) := by decide +kernel
theorem dX5_init_56 : decode cX5_init 56 = .ok (.newarray .int, 2) := by decide +kernel
theorem dX5_init_58 : decode cX5_init 58 = .ok (.putfield 28, 3) := by decide +kernel
theorem dX5_init_61 : decode cX5_init 61 = .ok (.aload_n 0, 1) := by decide +kernel
theorem dX5_init_62 : decode cX5_init 62 = .ok (.bipush 60, 2) := by decide +kernel
theorem dX5_init_64 : decode cX5_init 64 = .ok (.newarray .boolean, 2) := by decide +kernel
theorem dX5_init_66 : decode cX5_init 66 = .ok (.putfield 31, 3) := by decide +kernel
theorem dX5_init_69 : decode cX5_init 69 = .ok (.aload_n 0, 1) := by decide +kernel
theorem dX5_init_70 : decode cX5_init 70 = .ok (.bipush 60, 2) := by decide +kernel
theorem dX5_init_72 : decode cX5_init 72 = .ok (.newarray .boolean, 2) := by decide +kernel
theorem dX5_init_74 : decode cX5_init 74 = .ok (.putfield 35, 3) := by decide +kernel
theorem dX5_init_77 : decode cX5_init 77 = .ok (.aload_n 0, 1) := by decide +kernel
theorem dX5_init_78 : decode cX5_init 78 = .ok (.bipush 60, 2) := by decide +kernel
theorem dX5_init_80 : decode cX5_init 80 = .ok (.newarray .boolean, 2) := by decide +kernel
theorem dX5_init_82 : decode cX5_init 82 = .ok (.putfield 38, 3) := by decide +kernel
theorem dX5_init_85 : decode cX5_init 85 = .ok (.aload_n 0, 1) := by decide +kernel
theorem dX5_init_86 : decode cX5_init 86 = .ok (.iconst 3, 1) := by decide +kernel
theorem dX5_init_87 : decode cX5_init 87 = .ok (.putfield 41, 3) := by decide +kernel
theorem dX5_init_90 : decode cX5_init 90 = .ok (.aload_n 0, 1) := by decide +kernel
theorem dX5_init_91 : decode cX5_init 91 = .ok (.iconst 2, 1) := by decide +kernel
theorem dX5_init_92 : decode cX5_init 92 = .ok (.putfield 45, 3) := by decide +kernel
theorem dX5_init_95 : decode cX5_init 95 = .ok (.aload_n 0, 1) := by decide +kernel
theorem dX5_init_96 : decode cX5_init 96 = .ok (.iconst 1, 1) := by decide +kernel
theorem dX5_init_97 : decode cX5_init 97 = .ok (.putfield 48, 3) := by decide +kernel
theorem dX5_init_100 : decode cX5_init 100 = .ok (.aload_n 0, 1) := by decide +kernel
theorem dX5_init_101 : decode cX5_init 101 = .ok (.bipush 60, 2) := by decide +kernel
theorem dX5_init_103 : decode cX5_init 103 = .ok (.newarray .boolean, 2) := by decide +kernel
theorem dX5_init_105 : decode cX5_init 105 = .ok (.putfield 51, 3) := by decide +kernel
theorem dX5_init_108 : decode cX5_init 108 = .ok (.aload_n 0, 1) := by decide +kernel
theorem dX5_init_109 : decode cX5_init 109 = .ok (.bipush 60, 2) := by decide +kernel
theorem dX5_init_111 : decode cX5_init 111 = .ok (.newarray .boolean, 2) := by decide +kernel
theorem dX5_init_113 : decode cX5_init 113 = .ok (.putfield 54, 3) := by decide +kernel
theorem dX5_init_116 : decode cX5_init 116 = .ok (.aload_n 0, 1) := by decide +kernel
theorem dX5_init_117 : decode cX5_init 117 = .ok (.bipush 60, 2) := by decide +kernel
theorem dX5_init_119 : decode cX5_init 119 = .ok (.newarray .boolean, 2) := by decide +kernel
theorem dX5_init_121 : decode cX5_init 121 = .ok (.putfield 57, 3) := by decide +kernel
theorem dX5_init_124 : decode cX5_init 124 = .ok (.aload_n 0, 1) := by decide +kernel
theorem dX5_init_125 : decode cX5_init 125 = .ok (.sipush 365, 3) := by decide +kernel
theorem dX5_init_128 : decode cX5_init 128 = .ok (.newarray .int, 2) := by decide +kernel
theorem dX5_init_130 : decode cX5_init 130 = .ok (.putfield 60, 3) := by decide +kernel
theorem dX5_init_133 : decode cX5_init 133 = .ok (.iconst 0, 1) := by decide +kernel
theorem dX5_init_134 : decode cX5_init 134 = .ok (.istore_n 1, 1) := by decide +kernel
theorem dX5_init_135 : decode cX5_init 135 = .ok (.iload_n 1, 1) := by decide +kernel
theorem dX5_init_136 : decode cX5_init 136 = .ok (.sipush 365, 3) := by decide +kernel
theorem dX5_init_139 : decode cX5_init 139 = .ok (.if_icmp .ge 18, 3) := by decide +kernel
theorem dX5_init_142 : decode cX5_init 142 = .ok (.aload_n 0, 1) := by decide +kernel
theorem dX5_init_143 : decode cX5_init 143 = .ok (.getfield 60, 3) := by decide +kernel
theorem dX5_init_146 : decode cX5_init 146 = .ok (.iload_n 1, 1) := by decide +kernel
theorem dX5_init_147 : decode cX5_init 147 = .ok (.iload_n 1, 1) := by decide +kernel
theorem dX5_init_148 : decode cX5_init 148 = .ok (.iconst 5, 1) := by decide +kernel
theorem dX5_init_149 : decode cX5_init 149 = .ok (.irem, 1) := by decide +kernel
theorem dX5_init_150 : decode cX5_init 150 = .ok (.iastore, 1) := by decide +kernel
theorem dX5_init_151 : decode cX5_init 151 = .ok (.iinc 1 1, 3) := by decide +kernel
theorem dX5_init_154 : decode cX5_init 154 = .ok (.goto (-19), 3) := by decide +kernel
theorem dX5_init_157 : decode cX5_init 157 = .ok (.return_, 1) := by decide +kernel
theorem dX5_thrown_0 : decode cX5_thrown 0 = .ok (.aload_n 0, 1) := by decide +kernel
theorem dX5_thrown_1 : decode cX5_thrown 1 = .ok (.getfield 63, 3) := by decide +kernel
theorem dX5_thrown_4 : decode cX5_thrown 4 = .ok (.ireturn, 1) := by decide +kernel
theorem dX5_in_0 : decode cX5_in 0 = .ok (.iload_n 0, 1) := by decide +kernel
theorem dX5_in_1 : decode cX5_in 1 = .ok (.iload_n 1, 1) := by decide +kernel
theorem dX5_in_2 : decode cX5_in 2 = .ok (.if_icmp .lt 12, 3) := by decide +kernel
theorem dX5_in_5 : decode cX5_in 5 = .ok (.iload_n 0, 1) := by decide +kernel
theorem dX5_in_6 : decode cX5_in 6 = .ok (.iload_n 2, 1) := by decide +kernel
theorem dX5_in_7 : decode cX5_in 7 = .ok (.if_icmp .gt 7, 3) := by decide +kernel
theorem dX5_in_10 : decode cX5_in 10 = .ok (.iconst 1, 1) := by decide +kernel
theorem dX5_in_11 : decode cX5_in 11 = .ok (.goto 4, 3) := by decide +kernel
theorem dX5_in_14 : decode cX5_in 14 = .ok (.iconst 0, 1) := by decide +kernel
theorem dX5_in_15 : decode cX5_in 15 = .ok (.ireturn, 1) := by decide +kernel
theorem dX5_goes_0 : decode cX5_goes 0 = .ok (.aload_n 0, 1) := by decide +kernel
theorem dX5_goes_1 : decode cX5_goes 1 = .ok (.iload_n 1, 1) := by decide +kernel
theorem dX5_goes_2 : decode cX5_goes 2 = .ok (.ifCond .ne 7, 3) := by decide +kernel
theorem dX5_goes_5 : decode cX5_goes 5 = .ok (.iconst 1, 1) := by decide +kernel
theorem dX5_goes_6 : decode cX5_goes 6 = .ok (.goto 20, 3) := by decide +kernel
theorem dX5_goes_9 : decode cX5_goes 9 = .ok (.iload_n 2, 1) := by decide +kernel
theorem dX5_goes_10 : decode cX5_goes 10 = .ok (.ifCond .ne 7, 3) := by decide +kernel
theorem dX5_goes_13 : decode cX5_goes 13 = .ok (.iconst 2, 1) := by decide +kernel
theorem dX5_goes_14 : decode cX5_goes 14 = .ok (.goto 12, 3) := by decide +kernel
theorem dX5_goes_17 : decode cX5_goes 17 = .ok (.iload_n 3, 1) := by decide +kernel
theorem dX5_goes_18 : decode cX5_goes 18 = .ok (.ifCond .eq 7, 3) := by decide +kernel
theorem dX5_goes_21 : decode cX5_goes 21 = .ok (.iconst 0, 1) := by decide +kernel
theorem dX5_goes_22 : decode cX5_goes 22 = .ok (.goto 4, 3) := by decide +kernel
theorem dX5_goes_25 : decode cX5_goes 25 = .ok (.iconst 3, 1) := by decide +kernel
theorem dX5_goes_26 : decode cX5_goes 26 = .ok (.putfield 63, 3) := by decide +kernel
theorem dX5_goes_29 : decode cX5_goes 29 = .ok (.aload_n 0, 1) := by decide +kernel
theorem dX5_goes_30 : decode cX5_goes 30 = .ok (.getfield 63, 3) := by decide +kernel
theorem dX5_goes_33 : decode cX5_goes 33 = .ok (.ifCond .ne 7, 3) := by decide +kernel
theorem dX5_goes_36 : decode cX5_goes 36 = .ok (.iconst 1, 1) := by decide +kernel
theorem dX5_goes_37 : decode cX5_goes 37 = .ok (.goto 4, 3) := by decide +kernel
theorem dX5_goes_40 : decode cX5_goes 40 = .ok (.iconst 0, 1) := by decide +kernel
theorem dX5_goes_41 : decode cX5_goes 41 = .ok (.ireturn, 1) := by decide +kernel
theorem dX5_isCopy_0 : decode cX5_isCopy 0 = .ok (.iload_n 1, 1) := by decide +kernel
theorem dX5_isCopy_1 : decode cX5_isCopy 1 = .ok (.iconst 0, 1) := by decide +kernel
theorem dX5_isCopy_2 : decode cX5_isCopy 2 = .ok (.aload_n 0, 1) := by decide +kernel
theorem dX5_isCopy_3 : decode cX5_isCopy 3 = .ok (.getfield 66, 3) := by decide +kernel
theorem dX5_isCopy_6 : decode cX5_isCopy 6 = .ok (.iconst 1, 1) := by decide +kernel
theorem dX5_isCopy_7 : decode cX5_isCopy 7 = .ok (.isub, 1) := by decide +kernel
theorem dX5_isCopy_8 : decode cX5_isCopy 8 = .ok (.invokestatic 69, 3) := by decide +kernel
theorem dX5_isCopy_11 : decode cX5_isCopy 11 = .ok (.ifCond .eq 16, 3) := by decide +kernel
theorem dX5_isCopy_14 : decode cX5_isCopy 14 = .ok (.aload_n 0, 1) := by decide +kernel
theorem dX5_isCopy_15 : decode cX5_isCopy 15 = .ok (.getfield 31, 3) := by decide +kernel
theorem dX5_isCopy_18 : decode cX5_isCopy 18 = .ok (.iload_n 1, 1) := by decide +kernel
theorem dX5_isCopy_19 : decode cX5_isCopy 19 = .ok (.baload, 1) := by decide +kernel
theorem dX5_isCopy_20 : decode cX5_isCopy 20 = .ok (.ifCond .eq 7, 3) := by decide +kernel
theorem dX5_isCopy_23 : decode cX5_isCopy 23 = .ok (.iconst 1, 1) := by decide +kernel
theorem dX5_isCopy_24 : decode cX5_isCopy 24 = .ok (.goto 4, 3) := by decide +kernel
theorem dX5_isCopy_27 : decode cX5_isCopy 27 = .ok (.iconst 0, 1) := by decide +kernel
theorem dX5_isCopy_28 : decode cX5_isCopy 28 = .ok (.ireturn, 1) := by decide +kernel
theorem dX5_isFile_0 : decode cX5_isFile 0 = .ok (.iload_n 0, 1) := by decide +kernel
theorem dX5_isFile_1 : decode cX5_isFile 1 = .ok (.iconst 0, 1) := by decide +kernel
theorem dX5_isFile_2 : decode cX5_isFile 2 = .ok (.bipush 9, 2) := by decide +kernel
theorem dX5_isFile_4 : decode cX5_isFile 4 = .ok (.invokestatic 69, 3) := by decide +kernel
theorem dX5_isFile_7 : decode cX5_isFile 7 = .ok (.ireturn, 1) := by decide +kernel
theorem dX5_change_0 : decode cX5_change 0 = .ok (.aload_n 0, 1) := by decide +kernel
theorem dX5_change_1 : decode cX5_change 1 = .ok (.iload_n 1, 1) := by decide +kernel
theorem dX5_change_2 : decode cX5_change 2 = .ok (.invokestatic 73, 3) := by decide +kernel
theorem dX5_change_5 : decode cX5_change 5 = .ok (.iload_n 2, 1) := by decide +kernel
theorem dX5_change_6 : decode cX5_change 6 = .ok (.iconst 0, 1) := by decide +kernel
theorem dX5_change_7 : decode cX5_change 7 = .ok (.bipush 99, 2) := by decide +kernel
theorem dX5_change_9 : decode cX5_change 9 = .ok (.invokestatic 69, 3) := by decide +kernel
theorem dX5_change_12 : decode cX5_change 12 = .ok (.aload_n 0, 1) := by decide +kernel
theorem dX5_change_13 : decode cX5_change 13 = .ok (.getfield 77, 3) := by decide +kernel
theorem dX5_change_16 : decode cX5_change 16 = .ok (.sipush 300, 3) := by decide +kernel
theorem dX5_change_19 : decode cX5_change 19 = .ok (.if_icmp .ge 7, 3) := by decide +kernel
theorem dX5_change_22 : decode cX5_change 22 = .ok (.iconst 1, 1) := by decide +kernel
theorem dX5_change_23 : decode cX5_change 23 = .ok (.goto 4, 3) := by decide +kernel
theorem dX5_change_26 : decode cX5_change 26 = .ok (.iconst 0, 1) := by decide +kernel
theorem dX5_change_27 : decode cX5_change 27 = .ok (.invokevirtual 80, 3) := by decide +kernel
theorem dX5_change_30 : decode cX5_change 30 = .ok (.ifCond .ne 5, 3) := by decide +kernel
theorem dX5_change_33 : decode cX5_change 33 = .ok (.iconst 0, 1) := by decide +kernel
theorem dX5_change_34 : decode cX5_change 34 = .ok (.ireturn, 1) := by decide +kernel
theorem dX5_change_35 : decode cX5_change 35 = .ok (.aload_n 0, 1) := by decide +kernel
theorem dX5_change_36 : decode cX5_change 36 = .ok (.getfield 7, 3) := by decide +kernel
theorem dX5_change_39 : decode cX5_change 39 = .ok (.iload_n 1, 1) := by decide +kernel
theorem dX5_change_40 : decode cX5_change 40 = .ok (.iaload, 1) := by decide +kernel
theorem dX5_change_41 : decode cX5_change 41 = .ok (.istore_n 3, 1) := by decide +kernel
theorem dX5_change_42 : decode cX5_change 42 = .ok (.aload_n 0, 1) := by decide +kernel
theorem dX5_change_43 : decode cX5_change 43 = .ok (.getfield 7, 3) := by decide +kernel
theorem dX5_change_46 : decode cX5_change 46 = .ok (.iload_n 1, 1) := by decide +kernel
theorem dX5_change_47 : decode cX5_change 47 = .ok (.iload_n 2, 1) := by decide +kernel
theorem dX5_change_48 : decode cX5_change 48 = .ok (.iastore, 1) := by decide +kernel
theorem dX5_change_49 : decode cX5_change 49 = .ok (.aload_n 0, 1) := by decide +kernel
theorem dX5_change_50 : decode cX5_change 50 = .ok (.dup, 1) := by decide +kernel
theorem dX5_change_51 : decode cX5_change 51 = .ok (.getfield 77, 3) := by decide +kernel
theorem dX5_change_54 : decode cX5_change 54 = .ok (.iconst 1, 1) := by decide +kernel
theorem dX5_change_55 : decode cX5_change 55 = .ok (.iadd, 1) := by decide +kernel
theorem dX5_change_56 : decode cX5_change 56 = .ok (.putfield 77, 3) := by decide +kernel
theorem dX5_change_59 : decode cX5_change 59 = .ok (.aload_n 0, 1) := by decide +kernel
theorem dX5_change_60 : decode cX5_change 60 = .ok (.getfield 13, 3) := by decide +kernel
theorem dX5_change_63 : decode cX5_change 63 = .ok (.iload_n 1, 1) := by decide +kernel
theorem dX5_change_64 : decode cX5_change 64 = .ok (.aload_n 0, 1) := by decide +kernel
theorem dX5_change_65 : decode cX5_change 65 = .ok (.getfield 77, 3) := by decide +kernel
theorem dX5_change_68 : decode cX5_change 68 = .ok (.iastore, 1) := by decide +kernel
theorem dX5_change_69 : decode cX5_change 69 = .ok (.iload_n 3, 1) := by decide +kernel
theorem dX5_change_70 : decode cX5_change 70 = .ok (.ireturn, 1) := by decide +kernel
theorem dX5_pass_0 : decode cX5_pass 0 = .ok (.iload_n 1, 1) := by decide +kernel
theorem dX5_pass_1 : decode cX5_pass 1 = .ok (.iconst 1, 1) := by decide +kernel
theorem dX5_pass_2 : decode cX5_pass 2 = .ok (.bipush 30, 2) := by decide +kernel
theorem dX5_pass_4 : decode cX5_pass 4 = .ok (.invokestatic 69, 3) := by decide +kernel
theorem dX5_pass_7 : decode cX5_pass 7 = .ok (.istore_n 2, 1) := by decide +kernel
theorem dX5_pass_8 : decode cX5_pass 8 = .ok (.aload_n 0, 1) := by decide +kernel
theorem dX5_pass_9 : decode cX5_pass 9 = .ok (.iload_n 2, 1) := by decide +kernel
theorem dX5_pass_10 : decode cX5_pass 10 = .ok (.iload_n 2, 1) := by decide +kernel
theorem dX5_pass_11 : decode cX5_pass 11 = .ok (.ifCond .eq 19, 3) := by decide +kernel
theorem dX5_pass_14 : decode cX5_pass 14 = .ok (.aload_n 0, 1) := by decide +kernel
theorem dX5_pass_15 : decode cX5_pass 15 = .ok (.getfield 84, 3) := by decide +kernel
theorem dX5_pass_18 : decode cX5_pass 18 = .ok (.iload_n 1, 1) := by decide +kernel
theorem dX5_pass_19 : decode cX5_pass 19 = .ok (.iadd, 1) := by decide +kernel
theorem dX5_pass_20 : decode cX5_pass 20 = .ok (.sipush 360, 3) := by decide +kernel
theorem dX5_pass_23 : decode cX5_pass 23 = .ok (.if_icmp .gt 7, 3) := by decide +kernel
theorem dX5_pass_26 : decode cX5_pass 26 = .ok (.iconst 1, 1) := by decide +kernel
theorem dX5_pass_27 : decode cX5_pass 27 = .ok (.goto 4, 3) := by decide +kernel
theorem dX5_pass_30 : decode cX5_pass 30 = .ok (.iconst 0, 1) := by decide +kernel
theorem dX5_pass_31 : decode cX5_pass 31 = .ok (.iconst 1, 1) := by decide +kernel
theorem dX5_pass_32 : decode cX5_pass 32 = .ok (.invokevirtual 80, 3) := by decide +kernel
theorem dX5_pass_35 : decode cX5_pass 35 = .ok (.ifCond .ne 5, 3) := by decide +kernel
theorem dX5_pass_38 : decode cX5_pass 38 = .ok (.iconst 0, 1) := by decide +kernel
theorem dX5_pass_39 : decode cX5_pass 39 = .ok (.ireturn, 1) := by decide +kernel
theorem dX5_pass_40 : decode cX5_pass 40 = .ok (.aload_n 0, 1) := by decide +kernel
theorem dX5_pass_41 : decode cX5_pass 41 = .ok (.dup, 1) := by decide +kernel
theorem dX5_pass_42 : decode cX5_pass 42 = .ok (.getfield 84, 3) := by decide +kernel
theorem dX5_pass_45 : decode cX5_pass 45 = .ok (.iload_n 1, 1) := by decide +kernel
theorem dX5_pass_46 : decode cX5_pass 46 = .ok (.iadd, 1) := by decide +kernel
theorem dX5_pass_47 : decode cX5_pass 47 = .ok (.putfield 84, 3) := by decide +kernel
theorem dX5_pass_50 : decode cX5_pass 50 = .ok (.aload_n 0, 1) := by decide +kernel
theorem dX5_pass_51 : decode cX5_pass 51 = .ok (.getfield 84, 3) := by decide +kernel
theorem dX5_pass_54 : decode cX5_pass 54 = .ok (.ireturn, 1) := by decide +kernel
theorem dX5_latest_0 : decode cX5_latest 0 = .ok (.iconst (-1), 1) := by decide +kernel
theorem dX5_latest_1 : decode cX5_latest 1 = .ok (.istore_n 1, 1) := by decide +kernel
theorem dX5_latest_2 : decode cX5_latest 2 = .ok (.iconst 0, 1) := by decide +kernel
theorem dX5_latest_3 : decode cX5_latest 3 = .ok (.istore_n 2, 1) := by decide +kernel
theorem dX5_latest_4 : decode cX5_latest 4 = .ok (.iload_n 2, 1) := by decide +kernel
theorem dX5_latest_5 : decode cX5_latest 5 = .ok (.aload_n 0, 1) := by decide +kernel
theorem dX5_latest_6 : decode cX5_latest 6 = .ok (.getfield 66, 3) := by decide +kernel
theorem dX5_latest_9 : decode cX5_latest 9 = .ok (.if_icmp .ge 24, 3) := by decide +kernel
theorem dX5_latest_12 : decode cX5_latest 12 = .ok (.aload_n 0, 1) := by decide +kernel
theorem dX5_latest_13 : decode cX5_latest 13 = .ok (.getfield 31, 3) := by decide +kernel
theorem dX5_latest_16 : decode cX5_latest 16 = .ok (.iload_n 2, 1) := by decide +kernel
theorem dX5_latest_17 : decode cX5_latest 17 = .ok (.baload, 1) := by decide +kernel
theorem dX5_latest_18 : decode cX5_latest 18 = .ok (.ifCond .eq 7, 3) := by decide +kernel
theorem dX5_latest_21 : decode cX5_latest 21 = .ok (.iload_n 2, 1) := by decide +kernel
theorem dX5_latest_22 : decode cX5_latest 22 = .ok (.goto 4, 3) := by decide +kernel
theorem dX5_latest_25 : decode cX5_latest 25 = .ok (.iload_n 1, 1) := by decide +kernel
theorem dX5_latest_26 : decode cX5_latest 26 = .ok (.istore_n 1, 1) := by decide +kernel
theorem dX5_latest_27 : decode cX5_latest 27 = .ok (.iinc 2 1, 3) := by decide +kernel
theorem dX5_latest_30 : decode cX5_latest 30 = .ok (.goto (-26), 3) := by decide +kernel
theorem dX5_latest_33 : decode cX5_latest 33 = .ok (.iload_n 1, 1) := by decide +kernel
theorem dX5_latest_34 : decode cX5_latest 34 = .ok (.ireturn, 1) := by decide +kernel
theorem dX5_makes_0 : decode cX5_makes 0 = .ok (.aload_n 0, 1) := by decide +kernel
theorem dX5_makes_1 : decode cX5_makes 1 = .ok (.getfield 16, 3) := by decide +kernel
theorem dX5_makes_4 : decode cX5_makes 4 = .ok (.aload_n 0, 1) := by decide +kernel
theorem dX5_makes_5 : decode cX5_makes 5 = .ok (.getfield 66, 3) := by decide +kernel
theorem dX5_makes_8 : decode cX5_makes 8 = .ok (.aload_n 0, 1) := by decide +kernel
theorem dX5_makes_9 : decode cX5_makes 9 = .ok (.getfield 84, 3) := by decide +kernel
theorem dX5_makes_12 : decode cX5_makes 12 = .ok (.iastore, 1) := by decide +kernel
theorem dX5_makes_13 : decode cX5_makes 13 = .ok (.aload_n 0, 1) := by decide +kernel
theorem dX5_makes_14 : decode cX5_makes 14 = .ok (.getfield 19, 3) := by decide +kernel
theorem dX5_makes_17 : decode cX5_makes 17 = .ok (.aload_n 0, 1) := by decide +kernel
theorem dX5_makes_18 : decode cX5_makes 18 = .ok (.getfield 66, 3) := by decide +kernel
theorem dX5_makes_21 : decode cX5_makes 21 = .ok (.iload_n 1, 1) := by decide +kernel
theorem dX5_makes_22 : decode cX5_makes 22 = .ok (.iastore, 1) := by decide +kernel
theorem dX5_makes_23 : decode cX5_makes 23 = .ok (.aload_n 0, 1) := by decide +kernel
theorem dX5_makes_24 : decode cX5_makes 24 = .ok (.getfield 25, 3) := by decide +kernel
theorem dX5_makes_27 : decode cX5_makes 27 = .ok (.aload_n 0, 1) := by decide +kernel
theorem dX5_makes_28 : decode cX5_makes 28 = .ok (.getfield 66, 3) := by decide +kernel
theorem dX5_makes_31 : decode cX5_makes 31 = .ok (.aload_n 0, 1) := by decide +kernel
theorem dX5_makes_32 : decode cX5_makes 32 = .ok (.getfield 77, 3) := by decide +kernel
theorem dX5_makes_35 : decode cX5_makes 35 = .ok (.iastore, 1) := by decide +kernel
theorem dX5_makes_36 : decode cX5_makes 36 = .ok (.iconst 0, 1) := by decide +kernel
theorem dX5_makes_37 : decode cX5_makes 37 = .ok (.istore_n 2, 1) := by decide +kernel
theorem dX5_makes_38 : decode cX5_makes 38 = .ok (.iload_n 2, 1) := by decide +kernel
theorem dX5_makes_39 : decode cX5_makes 39 = .ok (.bipush 10, 2) := by decide +kernel
theorem dX5_makes_41 : decode cX5_makes 41 = .ok (.if_icmp .ge 84, 3) := by decide +kernel
theorem dX5_makes_44 : decode cX5_makes 44 = .ok (.iload_n 1, 1) := by decide +kernel
theorem dX5_makes_45 : decode cX5_makes 45 = .ok (.iconst (-1), 1) := by decide +kernel
theorem dX5_makes_46 : decode cX5_makes 46 = .ok (.if_icmp .eq 18, 3) := by decide +kernel
theorem dX5_makes_49 : decode cX5_makes 49 = .ok (.aload_n 0, 1) := by decide +kernel
theorem dX5_makes_50 : decode cX5_makes 50 = .ok (.getfield 13, 3) := by decide +kernel
theorem dX5_makes_53 : decode cX5_makes 53 = .ok (.iload_n 2, 1) := by decide +kernel
theorem dX5_makes_54 : decode cX5_makes 54 = .ok (.iaload, 1) := by decide +kernel
theorem dX5_makes_55 : decode cX5_makes 55 = .ok (.aload_n 0, 1) := by decide +kernel
theorem dX5_makes_56 : decode cX5_makes 56 = .ok (.getfield 25, 3) := by decide +kernel
theorem dX5_makes_59 : decode cX5_makes 59 = .ok (.iload_n 1, 1) := by decide +kernel
theorem dX5_makes_60 : decode cX5_makes 60 = .ok (.iaload, 1) := by decide +kernel
theorem dX5_makes_61 : decode cX5_makes 61 = .ok (.if_icmp .le 7, 3) := by decide +kernel
theorem dX5_makes_64 : decode cX5_makes 64 = .ok (.iconst 1, 1) := by decide +kernel
theorem dX5_makes_65 : decode cX5_makes 65 = .ok (.goto 4, 3) := by decide +kernel
theorem dX5_makes_68 : decode cX5_makes 68 = .ok (.iconst 0, 1) := by decide +kernel
theorem dX5_makes_69 : decode cX5_makes 69 = .ok (.istore_n 3, 1) := by decide +kernel
theorem dX5_makes_70 : decode cX5_makes 70 = .ok (.aload_n 0, 1) := by decide +kernel
theorem dX5_makes_71 : decode cX5_makes 71 = .ok (.getfield 28, 3) := by decide +kernel
theorem dX5_makes_74 : decode cX5_makes 74 = .ok (.bipush 10, 2) := by decide +kernel
theorem dX5_makes_76 : decode cX5_makes 76 = .ok (.aload_n 0, 1) := by decide +kernel
theorem dX5_makes_77 : decode cX5_makes 77 = .ok (.getfield 66, 3) := by decide +kernel
theorem dX5_makes_80 : decode cX5_makes 80 = .ok (.imul, 1) := by decide +kernel
theorem dX5_makes_81 : decode cX5_makes 81 = .ok (.iload_n 2, 1) := by decide +kernel
theorem dX5_makes_82 : decode cX5_makes 82 = .ok (.iadd, 1) := by decide +kernel
theorem dX5_makes_83 : decode cX5_makes 83 = .ok (.iload_n 3, 1) := by decide +kernel
theorem dX5_makes_84 : decode cX5_makes 84 = .ok (.ifCond .eq 12, 3) := by decide +kernel
theorem dX5_makes_87 : decode cX5_makes 87 = .ok (.aload_n 0, 1) := by decide +kernel
theorem dX5_makes_88 : decode cX5_makes 88 = .ok (.getfield 7, 3) := by decide +kernel
theorem dX5_makes_91 : decode cX5_makes 91 = .ok (.iload_n 2, 1) := by decide +kernel
theorem dX5_makes_92 : decode cX5_makes 92 = .ok (.iaload, 1) := by decide +kernel
theorem dX5_makes_93 : decode cX5_makes 93 = .ok (.goto 4, 3) := by decide +kernel
theorem dX5_makes_96 : decode cX5_makes 96 = .ok (.iconst (-1), 1) := by decide +kernel
theorem dX5_makes_97 : decode cX5_makes 97 = .ok (.iastore, 1) := by decide +kernel
theorem dX5_makes_98 : decode cX5_makes 98 = .ok (.aload_n 0, 1) := by decide +kernel
theorem dX5_makes_99 : decode cX5_makes 99 = .ok (.getfield 22, 3) := by decide +kernel
theorem dX5_makes_102 : decode cX5_makes 102 = .ok (.aload_n 0, 1) := by decide +kernel
theorem dX5_makes_103 : decode cX5_makes 103 = .ok (.getfield 66, 3) := by decide +kernel
theorem dX5_makes_106 : decode cX5_makes 106 = .ok (.dup2, 1) := by decide +kernel
theorem dX5_makes_107 : decode cX5_makes 107 = .ok (.iaload, 1) := by decide +kernel
theorem dX5_makes_108 : decode cX5_makes 108 = .ok (.iload_n 3, 1) := by decide +kernel
theorem dX5_makes_109 : decode cX5_makes 109 = .ok (.ifCond .eq 7, 3) := by decide +kernel
theorem dX5_makes_112 : decode cX5_makes 112 = .ok (.iconst 1, 1) := by decide +kernel
theorem dX5_makes_113 : decode cX5_makes 113 = .ok (.goto 4, 3) := by decide +kernel
theorem dX5_makes_116 : decode cX5_makes 116 = .ok (.iconst 0, 1) := by decide +kernel
theorem dX5_makes_117 : decode cX5_makes 117 = .ok (.iadd, 1) := by decide +kernel
theorem dX5_makes_118 : decode cX5_makes 118 = .ok (.iastore, 1) := by decide +kernel
theorem dX5_makes_119 : decode cX5_makes 119 = .ok (.iinc 2 1, 3) := by decide +kernel
theorem dX5_makes_122 : decode cX5_makes 122 = .ok (.goto (-84), 3) := by decide +kernel
theorem dX5_makes_125 : decode cX5_makes 125 = .ok (.aload_n 0, 1) := by decide +kernel
theorem dX5_makes_126 : decode cX5_makes 126 = .ok (.getfield 31, 3) := by decide +kernel
theorem dX5_makes_129 : decode cX5_makes 129 = .ok (.aload_n 0, 1) := by decide +kernel
theorem dX5_makes_130 : decode cX5_makes 130 = .ok (.getfield 66, 3) := by decide +kernel
theorem dX5_makes_133 : decode cX5_makes 133 = .ok (.iconst 1, 1) := by decide +kernel
theorem dX5_makes_134 : decode cX5_makes 134 = .ok (.bastore, 1) := by decide +kernel
theorem dX5_makes_135 : decode cX5_makes 135 = .ok (.aload_n 0, 1) := by decide +kernel
theorem dX5_makes_136 : decode cX5_makes 136 = .ok (.dup, 1) := by decide +kernel
theorem dX5_makes_137 : decode cX5_makes 137 = .ok (.getfield 66, 3) := by decide +kernel
theorem dX5_makes_140 : decode cX5_makes 140 = .ok (.iconst 1, 1) := by decide +kernel
theorem dX5_makes_141 : decode cX5_makes 141 = .ok (.iadd, 1) := by decide +kernel
theorem dX5_makes_142 : decode cX5_makes 142 = .ok (.putfield 66, 3) := by decide +kernel
theorem dX5_makes_145 : decode cX5_makes 145 = .ok (.aload_n 0, 1) := by decide +kernel
theorem dX5_makes_146 : decode cX5_makes 146 = .ok (.getfield 66, 3) := by decide +kernel
theorem dX5_makes_149 : decode cX5_makes 149 = .ok (.iconst 1, 1) := by decide +kernel
theorem dX5_makes_150 : decode cX5_makes 150 = .ok (.isub, 1) := by decide +kernel
theorem dX5_makes_151 : decode cX5_makes 151 = .ok (.ireturn, 1) := by decide +kernel
theorem dX5_full_0 : decode cX5_full 0 = .ok (.aload_n 0, 1) := by decide +kernel
theorem dX5_full_1 : decode cX5_full 1 = .ok (.aload_n 0, 1) := by decide +kernel
theorem dX5_full_2 : decode cX5_full 2 = .ok (.getfield 66, 3) := by decide +kernel
theorem dX5_full_5 : decode cX5_full 5 = .ok (.bipush 60, 2) := by decide +kernel
theorem dX5_full_7 : decode cX5_full 7 = .ok (.if_icmp .ge 7, 3) := by decide +kernel
theorem dX5_full_10 : decode cX5_full 10 = .ok (.iconst 1, 1) := by decide +kernel
theorem dX5_full_11 : decode cX5_full 11 = .ok (.goto 4, 3) := by decide +kernel
theorem dX5_full_14 : decode cX5_full 14 = .ok (.iconst 0, 1) := by decide +kernel
theorem dX5_full_15 : decode cX5_full 15 = .ok (.iconst 1, 1) := by decide +kernel
theorem dX5_full_16 : decode cX5_full 16 = .ok (.iconst 1, 1) := by decide +kernel
theorem dX5_full_17 : decode cX5_full 17 = .ok (.invokevirtual 80, 3) := by decide +kernel
theorem dX5_full_20 : decode cX5_full 20 = .ok (.ifCond .eq 11, 3) := by decide +kernel
theorem dX5_full_23 : decode cX5_full 23 = .ok (.aload_n 0, 1) := by decide +kernel
theorem dX5_full_24 : decode cX5_full 24 = .ok (.iconst (-1), 1) := by decide +kernel
theorem dX5_full_25 : decode cX5_full 25 = .ok (.invokevirtual 87, 3) := by decide +kernel
theorem dX5_full_28 : decode cX5_full 28 = .ok (.goto 4, 3) := by decide +kernel
theorem dX5_full_31 : decode cX5_full 31 = .ok (.iconst 0, 1) := by decide +kernel
theorem dX5_full_32 : decode cX5_full 32 = .ok (.ireturn, 1) := by decide +kernel
theorem dX5_increment_0 : decode cX5_increment 0 = .ok (.aload_n 0, 1) := by decide +kernel
theorem dX5_increment_1 : decode cX5_increment 1 = .ok (.aload_n 0, 1) := by decide +kernel
theorem dX5_increment_2 : decode cX5_increment 2 = .ok (.getfield 66, 3) := by decide +kernel
theorem dX5_increment_5 : decode cX5_increment 5 = .ok (.bipush 60, 2) := by decide +kernel
theorem dX5_increment_7 : decode cX5_increment 7 = .ok (.if_icmp .ge 15, 3) := by decide +kernel
theorem dX5_increment_10 : decode cX5_increment 10 = .ok (.aload_n 0, 1) := by decide +kernel
theorem dX5_increment_11 : decode cX5_increment 11 = .ok (.invokevirtual 91, 3) := by decide +kernel
theorem dX5_increment_14 : decode cX5_increment 14 = .ok (.iconst (-1), 1) := by decide +kernel
theorem dX5_increment_15 : decode cX5_increment 15 = .ok (.if_icmp .eq 7, 3) := by decide +kernel
theorem dX5_increment_18 : decode cX5_increment 18 = .ok (.iconst 1, 1) := by decide +kernel
theorem dX5_increment_19 : decode cX5_increment 19 = .ok (.goto 4, 3) := by decide +kernel
theorem dX5_increment_22 : decode cX5_increment 22 = .ok (.iconst 0, 1) := by decide +kernel
theorem dX5_increment_23 : decode cX5_increment 23 = .ok (.iconst 1, 1) := by decide +kernel
theorem dX5_increment_24 : decode cX5_increment 24 = .ok (.iconst 1, 1) := by decide +kernel
theorem dX5_increment_25 : decode cX5_increment 25 = .ok (.invokevirtual 80, 3) := by decide +kernel
theorem dX5_increment_28 : decode cX5_increment 28 = .ok (.ifCond .eq 14, 3) := by decide +kernel
theorem dX5_increment_31 : decode cX5_increment 31 = .ok (.aload_n 0, 1) := by decide +kernel
theorem dX5_increment_32 : decode cX5_increment 32 = .ok (.aload_n 0, 1) := by decide +kernel
theorem dX5_increment_33 : decode cX5_increment 33 = .ok (.invokevirtual 91, 3) := by decide +kernel
theorem dX5_increment_36 : decode cX5_increment 36 = .ok (.invokevirtual 87, 3) := by decide +kernel
theorem dX5_increment_39 : decode cX5_increment 39 = .ok (.goto 4, 3) := by decide +kernel
theorem dX5_increment_42 : decode cX5_increment 42 = .ok (.iconst 0, 1) := by decide +kernel
theorem dX5_increment_43 : decode cX5_increment 43 = .ok (.ireturn, 1) := by decide +kernel
theorem dX5_promises_0 : decode cX5_promises 0 = .ok (.iload_n 2, 1) := by decide +kernel
theorem dX5_promises_1 : decode cX5_promises 1 = .ok (.istore_n 3, 1) := by decide +kernel
theorem dX5_promises_2 : decode cX5_promises 2 = .ok (.iconst (-1), 1) := by decide +kernel
theorem dX5_promises_3 : decode cX5_promises 3 = .ok (.istore 4, 2) := by decide +kernel
theorem dX5_promises_5 : decode cX5_promises 5 = .ok (.aload_n 0, 1) := by decide +kernel
theorem dX5_promises_6 : decode cX5_promises 6 = .ok (.getfield 66, 3) := by decide +kernel
theorem dX5_promises_9 : decode cX5_promises 9 = .ok (.iconst 1, 1) := by decide +kernel
theorem dX5_promises_10 : decode cX5_promises 10 = .ok (.isub, 1) := by decide +kernel
theorem dX5_promises_11 : decode cX5_promises 11 = .ok (.istore 5, 2) := by decide +kernel
theorem dX5_promises_13 : decode cX5_promises 13 = .ok (.iload 5, 2) := by decide +kernel
theorem dX5_promises_15 : decode cX5_promises 15 = .ok (.ifCond .lt 59, 3) := by decide +kernel
theorem dX5_promises_18 : decode cX5_promises 18 = .ok (.iload_n 3, 1) := by decide +kernel
theorem dX5_promises_19 : decode cX5_promises 19 = .ok (.ifCond .le 55, 3) := by decide +kernel
theorem dX5_promises_22 : decode cX5_promises 22 = .ok (.aload_n 0, 1) := by decide +kernel
theorem dX5_promises_23 : decode cX5_promises 23 = .ok (.getfield 31, 3) := by decide +kernel
theorem dX5_promises_26 : decode cX5_promises 26 = .ok (.iload 5, 2) := by decide +kernel
theorem dX5_promises_28 : decode cX5_promises 28 = .ok (.baload, 1) := by decide +kernel
theorem dX5_promises_29 : decode cX5_promises 29 = .ok (.ifCond .eq 39, 3) := by decide +kernel
theorem dX5_promises_32 : decode cX5_promises 32 = .ok (.aload_n 0, 1) := by decide +kernel
theorem dX5_promises_33 : decode cX5_promises 33 = .ok (.getfield 16, 3) := by decide +kernel
theorem dX5_promises_36 : decode cX5_promises 36 = .ok (.iload 5, 2) := by decide +kernel
theorem dX5_promises_38 : decode cX5_promises 38 = .ok (.iaload, 1) := by decide +kernel
theorem dX5_promises_39 : decode cX5_promises 39 = .ok (.iload_n 1, 1) := by decide +kernel
theorem dX5_promises_40 : decode cX5_promises 40 = .ok (.idiv, 1) := by decide +kernel
theorem dX5_promises_41 : decode cX5_promises 41 = .ok (.iload 4, 2) := by decide +kernel
theorem dX5_promises_43 : decode cX5_promises 43 = .ok (.if_icmp .eq 25, 3) := by decide +kernel
theorem dX5_promises_46 : decode cX5_promises 46 = .ok (.aload_n 0, 1) := by decide +kernel
theorem dX5_promises_47 : decode cX5_promises 47 = .ok (.getfield 16, 3) := by decide +kernel
theorem dX5_promises_50 : decode cX5_promises 50 = .ok (.iload 5, 2) := by decide +kernel
theorem dX5_promises_52 : decode cX5_promises 52 = .ok (.iaload, 1) := by decide +kernel
theorem dX5_promises_53 : decode cX5_promises 53 = .ok (.iload_n 1, 1) := by decide +kernel
theorem dX5_promises_54 : decode cX5_promises 54 = .ok (.idiv, 1) := by decide +kernel
theorem dX5_promises_55 : decode cX5_promises 55 = .ok (.istore 4, 2) := by decide +kernel
theorem dX5_promises_57 : decode cX5_promises 57 = .ok (.aload_n 0, 1) := by decide +kernel
theorem dX5_promises_58 : decode cX5_promises 58 = .ok (.getfield 51, 3) := by decide +kernel
theorem dX5_promises_61 : decode cX5_promises 61 = .ok (.iload 5, 2) := by decide +kernel
theorem dX5_promises_63 : decode cX5_promises 63 = .ok (.iconst 1, 1) := by decide +kernel
theorem dX5_promises_64 : decode cX5_promises 64 = .ok (.bastore, 1) := by decide +kernel
theorem dX5_promises_65 : decode cX5_promises 65 = .ok (.iinc 3 (-1), 3) := by decide +kernel
theorem dX5_promises_68 : decode cX5_promises 68 = .ok (.iinc 5 (-1), 3) := by decide +kernel
theorem dX5_promises_71 : decode cX5_promises 71 = .ok (.goto (-58), 3) := by decide +kernel
theorem dX5_promises_74 : decode cX5_promises 74 = .ok (.return_, 1) := by decide +kernel
theorem dX5_marks_0 : decode cX5_marks 0 = .ok (.iconst 0, 1) := by decide +kernel
theorem dX5_marks_1 : decode cX5_marks 1 = .ok (.istore_n 1, 1) := by decide +kernel
theorem dX5_marks_2 : decode cX5_marks 2 = .ok (.iconst 0, 1) := by decide +kernel
theorem dX5_marks_3 : decode cX5_marks 3 = .ok (.istore_n 2, 1) := by decide +kernel
theorem dX5_marks_4 : decode cX5_marks 4 = .ok (.iload_n 2, 1) := by decide +kernel
theorem dX5_marks_5 : decode cX5_marks 5 = .ok (.aload_n 0, 1) := by decide +kernel
theorem dX5_marks_6 : decode cX5_marks 6 = .ok (.getfield 66, 3) := by decide +kernel
theorem dX5_marks_9 : decode cX5_marks 9 = .ok (.if_icmp .ge 23, 3) := by decide +kernel
theorem dX5_marks_12 : decode cX5_marks 12 = .ok (.aload_n 0, 1) := by decide +kernel
theorem dX5_marks_13 : decode cX5_marks 13 = .ok (.getfield 51, 3) := by decide +kernel
theorem dX5_marks_16 : decode cX5_marks 16 = .ok (.iload_n 2, 1) := by decide +kernel
theorem dX5_marks_17 : decode cX5_marks 17 = .ok (.iconst 0, 1) := by decide +kernel
theorem dX5_marks_18 : decode cX5_marks 18 = .ok (.bastore, 1) := by decide +kernel
theorem dX5_marks_19 : decode cX5_marks 19 = .ok (.aload_n 0, 1) := by decide +kernel
theorem dX5_marks_20 : decode cX5_marks 20 = .ok (.getfield 54, 3) := by decide +kernel
theorem dX5_marks_23 : decode cX5_marks 23 = .ok (.iload_n 2, 1) := by decide +kernel
theorem dX5_marks_24 : decode cX5_marks 24 = .ok (.iconst 0, 1) := by decide +kernel
theorem dX5_marks_25 : decode cX5_marks 25 = .ok (.bastore, 1) := by decide +kernel
theorem dX5_marks_26 : decode cX5_marks 26 = .ok (.iinc 2 1, 3) := by decide +kernel
theorem dX5_marks_29 : decode cX5_marks 29 = .ok (.goto (-25), 3) := by decide +kernel
theorem dX5_marks_32 : decode cX5_marks 32 = .ok (.aload_n 0, 1) := by decide +kernel
theorem dX5_marks_33 : decode cX5_marks 33 = .ok (.iconst 1, 1) := by decide +kernel
theorem dX5_marks_34 : decode cX5_marks 34 = .ok (.aload_n 0, 1) := by decide +kernel
theorem dX5_marks_35 : decode cX5_marks 35 = .ok (.getfield 41, 3) := by decide +kernel
theorem dX5_marks_38 : decode cX5_marks 38 = .ok (.invokevirtual 95, 3) := by decide +kernel
theorem dX5_marks_41 : decode cX5_marks 41 = .ok (.aload_n 0, 1) := by decide +kernel
theorem dX5_marks_42 : decode cX5_marks 42 = .ok (.bipush 7, 2) := by decide +kernel
theorem dX5_marks_44 : decode cX5_marks 44 = .ok (.aload_n 0, 1) := by decide +kernel
theorem dX5_marks_45 : decode cX5_marks 45 = .ok (.getfield 45, 3) := by decide +kernel
theorem dX5_marks_48 : decode cX5_marks 48 = .ok (.invokevirtual 95, 3) := by decide +kernel
theorem dX5_marks_51 : decode cX5_marks 51 = .ok (.aload_n 0, 1) := by decide +kernel
theorem dX5_marks_52 : decode cX5_marks 52 = .ok (.bipush 28, 2) := by decide +kernel
theorem dX5_marks_54 : decode cX5_marks 54 = .ok (.aload_n 0, 1) := by decide +kernel
theorem dX5_marks_55 : decode cX5_marks 55 = .ok (.getfield 48, 3) := by decide +kernel
theorem dX5_marks_58 : decode cX5_marks 58 = .ok (.invokevirtual 95, 3) := by decide +kernel
theorem dX5_marks_61 : decode cX5_marks 61 = .ok (.iconst 0, 1) := by decide +kernel
theorem dX5_marks_62 : decode cX5_marks 62 = .ok (.istore_n 2, 1) := by decide +kernel
theorem dX5_marks_63 : decode cX5_marks 63 = .ok (.iload_n 2, 1) := by decide +kernel
theorem dX5_marks_64 : decode cX5_marks 64 = .ok (.aload_n 0, 1) := by decide +kernel
theorem dX5_marks_65 : decode cX5_marks 65 = .ok (.getfield 66, 3) := by decide +kernel
theorem dX5_marks_68 : decode cX5_marks 68 = .ok (.if_icmp .ge 59, 3) := by decide +kernel
theorem dX5_marks_71 : decode cX5_marks 71 = .ok (.iload_n 1, 1) := by decide +kernel
theorem dX5_marks_72 : decode cX5_marks 72 = .ok (.aload_n 0, 1) := by decide +kernel
theorem dX5_marks_73 : decode cX5_marks 73 = .ok (.getfield 51, 3) := by decide +kernel
theorem dX5_marks_76 : decode cX5_marks 76 = .ok (.iload_n 2, 1) := by decide +kernel
theorem dX5_marks_77 : decode cX5_marks 77 = .ok (.baload, 1) := by decide +kernel
theorem dX5_marks_78 : decode cX5_marks 78 = .ok (.ifCond .eq 7, 3) := by decide +kernel
theorem dX5_marks_81 : decode cX5_marks 81 = .ok (.iconst 1, 1) := by decide +kernel
theorem dX5_marks_82 : decode cX5_marks 82 = .ok (.goto 4, 3) := by decide +kernel
theorem dX5_marks_85 : decode cX5_marks 85 = .ok (.iconst 0, 1) := by decide +kernel
theorem dX5_marks_86 : decode cX5_marks 86 = .ok (.iadd, 1) := by decide +kernel
theorem dX5_marks_87 : decode cX5_marks 87 = .ok (.istore_n 1, 1) := by decide +kernel
theorem dX5_marks_88 : decode cX5_marks 88 = .ok (.iload_n 2, 1) := by decide +kernel
theorem dX5_marks_89 : decode cX5_marks 89 = .ok (.istore_n 3, 1) := by decide +kernel
theorem dX5_marks_90 : decode cX5_marks 90 = .ok (.iload_n 3, 1) := by decide +kernel
theorem dX5_marks_91 : decode cX5_marks 91 = .ok (.iconst (-1), 1) := by decide +kernel
theorem dX5_marks_92 : decode cX5_marks 92 = .ok (.if_icmp .eq 29, 3) := by decide +kernel
theorem dX5_marks_95 : decode cX5_marks 95 = .ok (.aload_n 0, 1) := by decide +kernel
theorem dX5_marks_96 : decode cX5_marks 96 = .ok (.getfield 51, 3) := by decide +kernel
theorem dX5_marks_99 : decode cX5_marks 99 = .ok (.iload_n 2, 1) := by decide +kernel
theorem dX5_marks_100 : decode cX5_marks 100 = .ok (.baload, 1) := by decide +kernel
theorem dX5_marks_101 : decode cX5_marks 101 = .ok (.ifCond .eq 20, 3) := by decide +kernel
theorem dX5_marks_104 : decode cX5_marks 104 = .ok (.aload_n 0, 1) := by decide +kernel
theorem dX5_marks_105 : decode cX5_marks 105 = .ok (.getfield 54, 3) := by decide +kernel
theorem dX5_marks_108 : decode cX5_marks 108 = .ok (.iload_n 3, 1) := by decide +kernel
theorem dX5_marks_109 : decode cX5_marks 109 = .ok (.iconst 1, 1) := by decide +kernel
theorem dX5_marks_110 : decode cX5_marks 110 = .ok (.bastore, 1) := by decide +kernel
theorem dX5_marks_111 : decode cX5_marks 111 = .ok (.aload_n 0, 1) := by decide +kernel
theorem dX5_marks_112 : decode cX5_marks 112 = .ok (.getfield 19, 3) := by decide +kernel
theorem dX5_marks_115 : decode cX5_marks 115 = .ok (.iload_n 3, 1) := by decide +kernel
theorem dX5_marks_116 : decode cX5_marks 116 = .ok (.iaload, 1) := by decide +kernel
theorem dX5_marks_117 : decode cX5_marks 117 = .ok (.istore_n 3, 1) := by decide +kernel
theorem dX5_marks_118 : decode cX5_marks 118 = .ok (.goto (-28), 3) := by decide +kernel
theorem dX5_marks_121 : decode cX5_marks 121 = .ok (.iinc 2 1, 3) := by decide +kernel
theorem dX5_marks_124 : decode cX5_marks 124 = .ok (.goto (-61), 3) := by decide +kernel
theorem dX5_marks_127 : decode cX5_marks 127 = .ok (.iload_n 1, 1) := by decide +kernel
theorem dX5_marks_128 : decode cX5_marks 128 = .ok (.ireturn, 1) := by decide +kernel
theorem dX5_isBroken_0 : decode cX5_isBroken 0 = .ok (.iconst 0, 1) := by decide +kernel
theorem dX5_isBroken_1 : decode cX5_isBroken 1 = .ok (.istore_n 2, 1) := by decide +kernel
theorem dX5_isBroken_2 : decode cX5_isBroken 2 = .ok (.iload_n 1, 1) := by decide +kernel
theorem dX5_isBroken_3 : decode cX5_isBroken 3 = .ok (.istore_n 3, 1) := by decide +kernel
theorem dX5_isBroken_4 : decode cX5_isBroken 4 = .ok (.iload_n 3, 1) := by decide +kernel
theorem dX5_isBroken_5 : decode cX5_isBroken 5 = .ok (.iconst (-1), 1) := by decide +kernel
theorem dX5_isBroken_6 : decode cX5_isBroken 6 = .ok (.if_icmp .eq 32, 3) := by decide +kernel
theorem dX5_isBroken_9 : decode cX5_isBroken 9 = .ok (.iload_n 2, 1) := by decide +kernel
theorem dX5_isBroken_10 : decode cX5_isBroken 10 = .ok (.ifCond .ne 12, 3) := by decide +kernel
theorem dX5_isBroken_13 : decode cX5_isBroken 13 = .ok (.aload_n 0, 1) := by decide +kernel
theorem dX5_isBroken_14 : decode cX5_isBroken 14 = .ok (.getfield 35, 3) := by decide +kernel
theorem dX5_isBroken_17 : decode cX5_isBroken 17 = .ok (.iload_n 3, 1) := by decide +kernel
theorem dX5_isBroken_18 : decode cX5_isBroken 18 = .ok (.baload, 1) := by decide +kernel
theorem dX5_isBroken_19 : decode cX5_isBroken 19 = .ok (.ifCond .eq 7, 3) := by decide +kernel
theorem dX5_isBroken_22 : decode cX5_isBroken 22 = .ok (.iconst 1, 1) := by decide +kernel
theorem dX5_isBroken_23 : decode cX5_isBroken 23 = .ok (.goto 4, 3) := by decide +kernel
theorem dX5_isBroken_26 : decode cX5_isBroken 26 = .ok (.iconst 0, 1) := by decide +kernel
theorem dX5_isBroken_27 : decode cX5_isBroken 27 = .ok (.istore_n 2, 1) := by decide +kernel
theorem dX5_isBroken_28 : decode cX5_isBroken 28 = .ok (.aload_n 0, 1) := by decide +kernel
theorem dX5_isBroken_29 : decode cX5_isBroken 29 = .ok (.getfield 19, 3) := by decide +kernel
theorem dX5_isBroken_32 : decode cX5_isBroken 32 = .ok (.iload_n 3, 1) := by decide +kernel
theorem dX5_isBroken_33 : decode cX5_isBroken 33 = .ok (.iaload, 1) := by decide +kernel
theorem dX5_isBroken_34 : decode cX5_isBroken 34 = .ok (.istore_n 3, 1) := by decide +kernel
theorem dX5_isBroken_35 : decode cX5_isBroken 35 = .ok (.goto (-31), 3) := by decide +kernel
theorem dX5_isBroken_38 : decode cX5_isBroken 38 = .ok (.iload_n 2, 1) := by decide +kernel
theorem dX5_isBroken_39 : decode cX5_isBroken 39 = .ok (.ireturn, 1) := by decide +kernel
theorem dX5_damage_0 : decode cX5_damage 0 = .ok (.aload_n 0, 1) := by decide +kernel
theorem dX5_damage_1 : decode cX5_damage 1 = .ok (.aload_n 0, 1) := by decide +kernel
theorem dX5_damage_2 : decode cX5_damage 2 = .ok (.iload_n 1, 1) := by decide +kernel
theorem dX5_damage_3 : decode cX5_damage 3 = .ok (.invokevirtual 99, 3) := by decide +kernel
theorem dX5_damage_6 : decode cX5_damage 6 = .ok (.iconst 1, 1) := by decide +kernel
theorem dX5_damage_7 : decode cX5_damage 7 = .ok (.iconst 1, 1) := by decide +kernel
theorem dX5_damage_8 : decode cX5_damage 8 = .ok (.invokevirtual 80, 3) := by decide +kernel
theorem dX5_damage_11 : decode cX5_damage 11 = .ok (.ifCond .ne 5, 3) := by decide +kernel
theorem dX5_damage_14 : decode cX5_damage 14 = .ok (.iconst 0, 1) := by decide +kernel
theorem dX5_damage_15 : decode cX5_damage 15 = .ok (.ireturn, 1) := by decide +kernel
theorem dX5_damage_16 : decode cX5_damage 16 = .ok (.aload_n 0, 1) := by decide +kernel
theorem dX5_damage_17 : decode cX5_damage 17 = .ok (.getfield 35, 3) := by decide +kernel
theorem dX5_damage_20 : decode cX5_damage 20 = .ok (.iload_n 1, 1) := by decide +kernel
theorem dX5_damage_21 : decode cX5_damage 21 = .ok (.iconst 1, 1) := by decide +kernel
theorem dX5_damage_22 : decode cX5_damage 22 = .ok (.bastore, 1) := by decide +kernel
theorem dX5_damage_23 : decode cX5_damage 23 = .ok (.aload_n 0, 1) := by decide +kernel
theorem dX5_damage_24 : decode cX5_damage 24 = .ok (.getfield 38, 3) := by decide +kernel
theorem dX5_damage_27 : decode cX5_damage 27 = .ok (.iload_n 1, 1) := by decide +kernel
theorem dX5_damage_28 : decode cX5_damage 28 = .ok (.iconst 0, 1) := by decide +kernel
theorem dX5_damage_29 : decode cX5_damage 29 = .ok (.bastore, 1) := by decide +kernel
theorem dX5_damage_30 : decode cX5_damage 30 = .ok (.iconst 0, 1) := by decide +kernel
theorem dX5_damage_31 : decode cX5_damage 31 = .ok (.istore_n 2, 1) := by decide +kernel
theorem dX5_damage_32 : decode cX5_damage 32 = .ok (.aload_n 0, 1) := by decide +kernel
theorem dX5_damage_33 : decode cX5_damage 33 = .ok (.invokevirtual 102, 3) := by decide +kernel
theorem dX5_damage_36 : decode cX5_damage 36 = .ok (.pop, 1) := by decide +kernel
theorem dX5_damage_37 : decode cX5_damage 37 = .ok (.iconst 0, 1) := by decide +kernel
theorem dX5_damage_38 : decode cX5_damage 38 = .ok (.istore_n 3, 1) := by decide +kernel
theorem dX5_damage_39 : decode cX5_damage 39 = .ok (.iload_n 3, 1) := by decide +kernel
theorem dX5_damage_40 : decode cX5_damage 40 = .ok (.aload_n 0, 1) := by decide +kernel
theorem dX5_damage_41 : decode cX5_damage 41 = .ok (.getfield 66, 3) := by decide +kernel
theorem dX5_damage_44 : decode cX5_damage 44 = .ok (.if_icmp .ge 34, 3) := by decide +kernel
theorem dX5_damage_47 : decode cX5_damage 47 = .ok (.iload_n 2, 1) := by decide +kernel
theorem dX5_damage_48 : decode cX5_damage 48 = .ok (.aload_n 0, 1) := by decide +kernel
theorem dX5_damage_49 : decode cX5_damage 49 = .ok (.getfield 51, 3) := by decide +kernel
theorem dX5_damage_52 : decode cX5_damage 52 = .ok (.iload_n 3, 1) := by decide +kernel
theorem dX5_damage_53 : decode cX5_damage 53 = .ok (.baload, 1) := by decide +kernel
theorem dX5_damage_54 : decode cX5_damage 54 = .ok (.ifCond .eq 15, 3) := by decide +kernel
theorem dX5_damage_57 : decode cX5_damage 57 = .ok (.aload_n 0, 1) := by decide +kernel
theorem dX5_damage_58 : decode cX5_damage 58 = .ok (.iload_n 3, 1) := by decide +kernel
theorem dX5_damage_59 : decode cX5_damage 59 = .ok (.invokevirtual 105, 3) := by decide +kernel
theorem dX5_damage_62 : decode cX5_damage 62 = .ok (.ifCond .eq 7, 3) := by decide +kernel
theorem dX5_damage_65 : decode cX5_damage 65 = .ok (.iconst 1, 1) := by decide +kernel
theorem dX5_damage_66 : decode cX5_damage 66 = .ok (.goto 4, 3) := by decide +kernel
theorem dX5_damage_69 : decode cX5_damage 69 = .ok (.iconst 0, 1) := by decide +kernel
theorem dX5_damage_70 : decode cX5_damage 70 = .ok (.iadd, 1) := by decide +kernel
theorem dX5_damage_71 : decode cX5_damage 71 = .ok (.istore_n 2, 1) := by decide +kernel
theorem dX5_damage_72 : decode cX5_damage 72 = .ok (.iinc 3 1, 3) := by decide +kernel
theorem dX5_damage_75 : decode cX5_damage 75 = .ok (.goto (-36), 3) := by decide +kernel
theorem dX5_damage_78 : decode cX5_damage 78 = .ok (.iload_n 2, 1) := by decide +kernel
theorem dX5_damage_79 : decode cX5_damage 79 = .ok (.ireturn, 1) := by decide +kernel
theorem dX5_drill_0 : decode cX5_drill 0 = .ok (.aload_n 0, 1) := by decide +kernel
theorem dX5_drill_1 : decode cX5_drill 1 = .ok (.aload_n 0, 1) := by decide +kernel
theorem dX5_drill_2 : decode cX5_drill 2 = .ok (.iload_n 1, 1) := by decide +kernel
theorem dX5_drill_3 : decode cX5_drill 3 = .ok (.invokevirtual 99, 3) := by decide +kernel
theorem dX5_drill_6 : decode cX5_drill 6 = .ok (.iconst 1, 1) := by decide +kernel
theorem dX5_drill_7 : decode cX5_drill 7 = .ok (.iconst 1, 1) := by decide +kernel
theorem dX5_drill_8 : decode cX5_drill 8 = .ok (.invokevirtual 80, 3) := by decide +kernel
theorem dX5_drill_11 : decode cX5_drill 11 = .ok (.ifCond .ne 5, 3) := by decide +kernel
theorem dX5_drill_14 : decode cX5_drill 14 = .ok (.iconst 0, 1) := by decide +kernel
theorem dX5_drill_15 : decode cX5_drill 15 = .ok (.ireturn, 1) := by decide +kernel
theorem dX5_drill_16 : decode cX5_drill 16 = .ok (.aload_n 0, 1) := by decide +kernel
theorem dX5_drill_17 : decode cX5_drill 17 = .ok (.iload_n 1, 1) := by decide +kernel
theorem dX5_drill_18 : decode cX5_drill 18 = .ok (.invokevirtual 105, 3) := by decide +kernel
theorem dX5_drill_21 : decode cX5_drill 21 = .ok (.istore_n 2, 1) := by decide +kernel
theorem dX5_drill_22 : decode cX5_drill 22 = .ok (.iconst 0, 1) := by decide +kernel
theorem dX5_drill_23 : decode cX5_drill 23 = .ok (.istore_n 3, 1) := by decide +kernel
theorem dX5_drill_24 : decode cX5_drill 24 = .ok (.iload_n 1, 1) := by decide +kernel
theorem dX5_drill_25 : decode cX5_drill 25 = .ok (.istore 4, 2) := by decide +kernel
theorem dX5_drill_27 : decode cX5_drill 27 = .ok (.iload 4, 2) := by decide +kernel
theorem dX5_drill_29 : decode cX5_drill 29 = .ok (.iconst (-1), 1) := by decide +kernel
theorem dX5_drill_30 : decode cX5_drill 30 = .ok (.if_icmp .eq 34, 3) := by decide +kernel
theorem dX5_drill_33 : decode cX5_drill 33 = .ok (.aload_n 0, 1) := by decide +kernel
theorem dX5_drill_34 : decode cX5_drill 34 = .ok (.getfield 38, 3) := by decide +kernel
theorem dX5_drill_37 : decode cX5_drill 37 = .ok (.iload 4, 2) := by decide +kernel
theorem dX5_drill_39 : decode cX5_drill 39 = .ok (.iload_n 2, 1) := by decide +kernel
theorem dX5_drill_40 : decode cX5_drill 40 = .ok (.ifCond .ne 7, 3) := by decide +kernel
theorem dX5_drill_43 : decode cX5_drill 43 = .ok (.iconst 1, 1) := by decide +kernel
theorem dX5_drill_44 : decode cX5_drill 44 = .ok (.goto 4, 3) := by decide +kernel
theorem dX5_drill_47 : decode cX5_drill 47 = .ok (.iconst 0, 1) := by decide +kernel
theorem dX5_drill_48 : decode cX5_drill 48 = .ok (.bastore, 1) := by decide +kernel
theorem dX5_drill_49 : decode cX5_drill 49 = .ok (.iinc 3 1, 3) := by decide +kernel
theorem dX5_drill_52 : decode cX5_drill 52 = .ok (.aload_n 0, 1) := by decide +kernel
theorem dX5_drill_53 : decode cX5_drill 53 = .ok (.getfield 19, 3) := by decide +kernel
theorem dX5_drill_56 : decode cX5_drill 56 = .ok (.iload 4, 2) := by decide +kernel
theorem dX5_drill_58 : decode cX5_drill 58 = .ok (.iaload, 1) := by decide +kernel
theorem dX5_drill_59 : decode cX5_drill 59 = .ok (.istore 4, 2) := by decide +kernel
theorem dX5_drill_61 : decode cX5_drill 61 = .ok (.goto (-34), 3) := by decide +kernel
theorem dX5_drill_64 : decode cX5_drill 64 = .ok (.iload_n 2, 1) := by decide +kernel
theorem dX5_drill_65 : decode cX5_drill 65 = .ok (.ifCond .eq 7, 3) := by decide +kernel
theorem dX5_drill_68 : decode cX5_drill 68 = .ok (.iconst (-1), 1) := by decide +kernel
theorem dX5_drill_69 : decode cX5_drill 69 = .ok (.goto 4, 3) := by decide +kernel
theorem dX5_drill_72 : decode cX5_drill 72 = .ok (.iload_n 3, 1) := by decide +kernel
theorem dX5_drill_73 : decode cX5_drill 73 = .ok (.ireturn, 1) := by decide +kernel
theorem dX5_setRules_0 : decode cX5_setRules 0 = .ok (.aload_n 0, 1) := by decide +kernel
theorem dX5_setRules_1 : decode cX5_setRules 1 = .ok (.iload_n 1, 1) := by decide +kernel
theorem dX5_setRules_2 : decode cX5_setRules 2 = .ok (.iconst 0, 1) := by decide +kernel
theorem dX5_setRules_3 : decode cX5_setRules 3 = .ok (.bipush 30, 2) := by decide +kernel
theorem dX5_setRules_5 : decode cX5_setRules 5 = .ok (.invokestatic 69, 3) := by decide +kernel
theorem dX5_setRules_8 : decode cX5_setRules 8 = .ok (.ifCond .eq 27, 3) := by decide +kernel
theorem dX5_setRules_11 : decode cX5_setRules 11 = .ok (.iload_n 2, 1) := by decide +kernel
theorem dX5_setRules_12 : decode cX5_setRules 12 = .ok (.iconst 0, 1) := by decide +kernel
theorem dX5_setRules_13 : decode cX5_setRules 13 = .ok (.bipush 20, 2) := by decide +kernel
theorem dX5_setRules_15 : decode cX5_setRules 15 = .ok (.invokestatic 69, 3) := by decide +kernel
theorem dX5_setRules_18 : decode cX5_setRules 18 = .ok (.ifCond .eq 17, 3) := by decide +kernel
theorem dX5_setRules_21 : decode cX5_setRules 21 = .ok (.iload_n 3, 1) := by decide +kernel
theorem dX5_setRules_22 : decode cX5_setRules 22 = .ok (.iconst 0, 1) := by decide +kernel
theorem dX5_setRules_23 : decode cX5_setRules 23 = .ok (.bipush 12, 2) := by decide +kernel
theorem dX5_setRules_25 : decode cX5_setRules 25 = .ok (.invokestatic 69, 3) := by decide +kernel
theorem dX5_setRules_28 : decode cX5_setRules 28 = .ok (.ifCond .eq 7, 3) := by decide +kernel
theorem dX5_setRules_31 : decode cX5_setRules 31 = .ok (.iconst 1, 1) := by decide +kernel
theorem dX5_setRules_32 : decode cX5_setRules 32 = .ok (.goto 4, 3) := by decide +kernel
theorem dX5_setRules_35 : decode cX5_setRules 35 = .ok (.iconst 0, 1) := by decide +kernel
theorem dX5_setRules_36 : decode cX5_setRules 36 = .ok (.iconst 1, 1) := by decide +kernel
theorem dX5_setRules_37 : decode cX5_setRules 37 = .ok (.iconst 1, 1) := by decide +kernel
theorem dX5_setRules_38 : decode cX5_setRules 38 = .ok (.invokevirtual 80, 3) := by decide +kernel
theorem dX5_setRules_41 : decode cX5_setRules 41 = .ok (.ifCond .ne 5, 3) := by decide +kernel
theorem dX5_setRules_44 : decode cX5_setRules 44 = .ok (.iconst 0, 1) := by decide +kernel
theorem dX5_setRules_45 : decode cX5_setRules 45 = .ok (.ireturn, 1) := by decide +kernel
theorem dX5_setRules_46 : decode cX5_setRules 46 = .ok (.aload_n 0, 1) := by decide +kernel
theorem dX5_setRules_47 : decode cX5_setRules 47 = .ok (.iload_n 1, 1) := by decide +kernel
theorem dX5_setRules_48 : decode cX5_setRules 48 = .ok (.putfield 41, 3) := by decide +kernel
theorem dX5_setRules_51 : decode cX5_setRules 51 = .ok (.aload_n 0, 1) := by decide +kernel
theorem dX5_setRules_52 : decode cX5_setRules 52 = .ok (.iload_n 2, 1) := by decide +kernel
theorem dX5_setRules_53 : decode cX5_setRules 53 = .ok (.putfield 45, 3) := by decide +kernel
theorem dX5_setRules_56 : decode cX5_setRules 56 = .ok (.aload_n 0, 1) := by decide +kernel
theorem dX5_setRules_57 : decode cX5_setRules 57 = .ok (.iload_n 3, 1) := by decide +kernel
theorem dX5_setRules_58 : decode cX5_setRules 58 = .ok (.putfield 48, 3) := by decide +kernel
theorem dX5_setRules_61 : decode cX5_setRules 61 = .ok (.aload_n 0, 1) := by decide +kernel
theorem dX5_setRules_62 : decode cX5_setRules 62 = .ok (.invokevirtual 102, 3) := by decide +kernel
theorem dX5_setRules_65 : decode cX5_setRules 65 = .ok (.ireturn, 1) := by decide +kernel
theorem dX5_thin_0 : decode cX5_thin 0 = .ok (.aload_n 0, 1) := by decide +kernel
theorem dX5_thin_1 : decode cX5_thin 1 = .ok (.iconst 0, 1) := by decide +kernel
theorem dX5_thin_2 : decode cX5_thin 2 = .ok (.putfield 63, 3) := by decide +kernel
theorem dX5_thin_5 : decode cX5_thin 5 = .ok (.iconst (-1), 1) := by decide +kernel
theorem dX5_thin_6 : decode cX5_thin 6 = .ok (.istore_n 1, 1) := by decide +kernel
theorem dX5_thin_7 : decode cX5_thin 7 = .ok (.aload_n 0, 1) := by decide +kernel
theorem dX5_thin_8 : decode cX5_thin 8 = .ok (.invokevirtual 102, 3) := by decide +kernel
theorem dX5_thin_11 : decode cX5_thin 11 = .ok (.pop, 1) := by decide +kernel
theorem dX5_thin_12 : decode cX5_thin 12 = .ok (.iconst 0, 1) := by decide +kernel
theorem dX5_thin_13 : decode cX5_thin 13 = .ok (.istore_n 2, 1) := by decide +kernel
theorem dX5_thin_14 : decode cX5_thin 14 = .ok (.iload_n 2, 1) := by decide +kernel
theorem dX5_thin_15 : decode cX5_thin 15 = .ok (.aload_n 0, 1) := by decide +kernel
theorem dX5_thin_16 : decode cX5_thin 16 = .ok (.getfield 66, 3) := by decide +kernel
theorem dX5_thin_19 : decode cX5_thin 19 = .ok (.if_icmp .ge 48, 3) := by decide +kernel
theorem dX5_thin_22 : decode cX5_thin 22 = .ok (.aload_n 0, 1) := by decide +kernel
theorem dX5_thin_23 : decode cX5_thin 23 = .ok (.getfield 31, 3) := by decide +kernel
theorem dX5_thin_26 : decode cX5_thin 26 = .ok (.iload_n 2, 1) := by decide +kernel
theorem dX5_thin_27 : decode cX5_thin 27 = .ok (.baload, 1) := by decide +kernel
theorem dX5_thin_28 : decode cX5_thin 28 = .ok (.ifCond .eq 31, 3) := by decide +kernel
theorem dX5_thin_31 : decode cX5_thin 31 = .ok (.aload_n 0, 1) := by decide +kernel
theorem dX5_thin_32 : decode cX5_thin 32 = .ok (.getfield 38, 3) := by decide +kernel
theorem dX5_thin_35 : decode cX5_thin 35 = .ok (.iload_n 2, 1) := by decide +kernel
theorem dX5_thin_36 : decode cX5_thin 36 = .ok (.baload, 1) := by decide +kernel
theorem dX5_thin_37 : decode cX5_thin 37 = .ok (.ifCond .eq 22, 3) := by decide +kernel
theorem dX5_thin_40 : decode cX5_thin 40 = .ok (.aload_n 0, 1) := by decide +kernel
theorem dX5_thin_41 : decode cX5_thin 41 = .ok (.getfield 16, 3) := by decide +kernel
theorem dX5_thin_44 : decode cX5_thin 44 = .ok (.iload_n 2, 1) := by decide +kernel
theorem dX5_thin_45 : decode cX5_thin 45 = .ok (.iaload, 1) := by decide +kernel
theorem dX5_thin_46 : decode cX5_thin 46 = .ok (.iload_n 1, 1) := by decide +kernel
theorem dX5_thin_47 : decode cX5_thin 47 = .ok (.if_icmp .le 12, 3) := by decide +kernel
theorem dX5_thin_50 : decode cX5_thin 50 = .ok (.aload_n 0, 1) := by decide +kernel
theorem dX5_thin_51 : decode cX5_thin 51 = .ok (.getfield 16, 3) := by decide +kernel
theorem dX5_thin_54 : decode cX5_thin 54 = .ok (.iload_n 2, 1) := by decide +kernel
theorem dX5_thin_55 : decode cX5_thin 55 = .ok (.iaload, 1) := by decide +kernel
theorem dX5_thin_56 : decode cX5_thin 56 = .ok (.goto 4, 3) := by decide +kernel
theorem dX5_thin_59 : decode cX5_thin 59 = .ok (.iload_n 1, 1) := by decide +kernel
theorem dX5_thin_60 : decode cX5_thin 60 = .ok (.istore_n 1, 1) := by decide +kernel
theorem dX5_thin_61 : decode cX5_thin 61 = .ok (.iinc 2 1, 3) := by decide +kernel
theorem dX5_thin_64 : decode cX5_thin 64 = .ok (.goto (-50), 3) := by decide +kernel
theorem dX5_thin_67 : decode cX5_thin 67 = .ok (.iconst 0, 1) := by decide +kernel
theorem dX5_thin_68 : decode cX5_thin 68 = .ok (.istore_n 2, 1) := by decide +kernel
theorem dX5_thin_69 : decode cX5_thin 69 = .ok (.iload_n 2, 1) := by decide +kernel
theorem dX5_thin_70 : decode cX5_thin 70 = .ok (.aload_n 0, 1) := by decide +kernel
theorem dX5_thin_71 : decode cX5_thin 71 = .ok (.getfield 66, 3) := by decide +kernel
theorem dX5_thin_74 : decode cX5_thin 74 = .ok (.if_icmp .ge 48, 3) := by decide +kernel
theorem dX5_thin_77 : decode cX5_thin 77 = .ok (.aload_n 0, 1) := by decide +kernel
theorem dX5_thin_78 : decode cX5_thin 78 = .ok (.getfield 57, 3) := by decide +kernel
theorem dX5_thin_81 : decode cX5_thin 81 = .ok (.iload_n 2, 1) := by decide +kernel
theorem dX5_thin_82 : decode cX5_thin 82 = .ok (.aload_n 0, 1) := by decide +kernel
theorem dX5_thin_83 : decode cX5_thin 83 = .ok (.getfield 31, 3) := by decide +kernel
theorem dX5_thin_86 : decode cX5_thin 86 = .ok (.iload_n 2, 1) := by decide +kernel
theorem dX5_thin_87 : decode cX5_thin 87 = .ok (.baload, 1) := by decide +kernel
theorem dX5_thin_88 : decode cX5_thin 88 = .ok (.ifCond .eq 26, 3) := by decide +kernel
theorem dX5_thin_91 : decode cX5_thin 91 = .ok (.aload_n 0, 1) := by decide +kernel
theorem dX5_thin_92 : decode cX5_thin 92 = .ok (.getfield 54, 3) := by decide +kernel
theorem dX5_thin_95 : decode cX5_thin 95 = .ok (.iload_n 2, 1) := by decide +kernel
theorem dX5_thin_96 : decode cX5_thin 96 = .ok (.baload, 1) := by decide +kernel
theorem dX5_thin_97 : decode cX5_thin 97 = .ok (.ifCond .ne 17, 3) := by decide +kernel
theorem dX5_thin_100 : decode cX5_thin 100 = .ok (.aload_n 0, 1) := by decide +kernel
theorem dX5_thin_101 : decode cX5_thin 101 = .ok (.getfield 16, 3) := by decide +kernel
theorem dX5_thin_104 : decode cX5_thin 104 = .ok (.iload_n 2, 1) := by decide +kernel
theorem dX5_thin_105 : decode cX5_thin 105 = .ok (.iaload, 1) := by decide +kernel
theorem dX5_thin_106 : decode cX5_thin 106 = .ok (.iload_n 1, 1) := by decide +kernel
theorem dX5_thin_107 : decode cX5_thin 107 = .ok (.if_icmp .ge 7, 3) := by decide +kernel
theorem dX5_thin_110 : decode cX5_thin 110 = .ok (.iconst 1, 1) := by decide +kernel
theorem dX5_thin_111 : decode cX5_thin 111 = .ok (.goto 4, 3) := by decide +kernel
theorem dX5_thin_114 : decode cX5_thin 114 = .ok (.iconst 0, 1) := by decide +kernel
theorem dX5_thin_115 : decode cX5_thin 115 = .ok (.bastore, 1) := by decide +kernel
theorem dX5_thin_116 : decode cX5_thin 116 = .ok (.iinc 2 1, 3) := by decide +kernel
theorem dX5_thin_119 : decode cX5_thin 119 = .ok (.goto (-50), 3) := by decide +kernel
theorem dX5_thin_122 : decode cX5_thin 122 = .ok (.aload_n 0, 1) := by decide +kernel
theorem dX5_thin_123 : decode cX5_thin 123 = .ok (.getfield 66, 3) := by decide +kernel
theorem dX5_thin_126 : decode cX5_thin 126 = .ok (.iconst 1, 1) := by decide +kernel
theorem dX5_thin_127 : decode cX5_thin 127 = .ok (.isub, 1) := by decide +kernel
theorem dX5_thin_128 : decode cX5_thin 128 = .ok (.istore_n 2, 1) := by decide +kernel
theorem dX5_thin_129 : decode cX5_thin 129 = .ok (.iload_n 2, 1) := by decide +kernel
theorem dX5_thin_130 : decode cX5_thin 130 = .ok (.ifCond .lt 49, 3) := by decide +kernel
theorem dX5_thin_133 : decode cX5_thin 133 = .ok (.aload_n 0, 1) := by decide +kernel
theorem dX5_thin_134 : decode cX5_thin 134 = .ok (.getfield 31, 3) := by decide +kernel
theorem dX5_thin_137 : decode cX5_thin 137 = .ok (.iload_n 2, 1) := by decide +kernel
theorem dX5_thin_138 : decode cX5_thin 138 = .ok (.baload, 1) := by decide +kernel
theorem dX5_thin_139 : decode cX5_thin 139 = .ok (.ifCond .eq 34, 3) := by decide +kernel
theorem dX5_thin_142 : decode cX5_thin 142 = .ok (.aload_n 0, 1) := by decide +kernel
theorem dX5_thin_143 : decode cX5_thin 143 = .ok (.getfield 57, 3) := by decide +kernel
theorem dX5_thin_146 : decode cX5_thin 146 = .ok (.iload_n 2, 1) := by decide +kernel
theorem dX5_thin_147 : decode cX5_thin 147 = .ok (.baload, 1) := by decide +kernel
theorem dX5_thin_148 : decode cX5_thin 148 = .ok (.ifCond .ne 25, 3) := by decide +kernel
theorem dX5_thin_151 : decode cX5_thin 151 = .ok (.aload_n 0, 1) := by decide +kernel
theorem dX5_thin_152 : decode cX5_thin 152 = .ok (.getfield 19, 3) := by decide +kernel
theorem dX5_thin_155 : decode cX5_thin 155 = .ok (.iload_n 2, 1) := by decide +kernel
theorem dX5_thin_156 : decode cX5_thin 156 = .ok (.iaload, 1) := by decide +kernel
theorem dX5_thin_157 : decode cX5_thin 157 = .ok (.iconst (-1), 1) := by decide +kernel
theorem dX5_thin_158 : decode cX5_thin 158 = .ok (.if_icmp .eq 15, 3) := by decide +kernel
theorem dX5_thin_161 : decode cX5_thin 161 = .ok (.aload_n 0, 1) := by decide +kernel
theorem dX5_thin_162 : decode cX5_thin 162 = .ok (.getfield 57, 3) := by decide +kernel
theorem dX5_thin_165 : decode cX5_thin 165 = .ok (.aload_n 0, 1) := by decide +kernel
theorem dX5_thin_166 : decode cX5_thin 166 = .ok (.getfield 19, 3) := by decide +kernel
theorem dX5_thin_169 : decode cX5_thin 169 = .ok (.iload_n 2, 1) := by decide +kernel
theorem dX5_thin_170 : decode cX5_thin 170 = .ok (.iaload, 1) := by decide +kernel
theorem dX5_thin_171 : decode cX5_thin 171 = .ok (.iconst 0, 1) := by decide +kernel
theorem dX5_thin_172 : decode cX5_thin 172 = .ok (.bastore, 1) := by decide +kernel
theorem dX5_thin_173 : decode cX5_thin 173 = .ok (.iinc 2 (-1), 3) := by decide +kernel
theorem dX5_thin_176 : decode cX5_thin 176 = .ok (.goto (-47), 3) := by decide +kernel
theorem dX5_thin_179 : decode cX5_thin 179 = .ok (.iconst 0, 1) := by decide +kernel
theorem dX5_thin_180 : decode cX5_thin 180 = .ok (.istore_n 2, 1) := by decide +kernel
theorem dX5_thin_181 : decode cX5_thin 181 = .ok (.iconst 0, 1) := by decide +kernel
theorem dX5_thin_182 : decode cX5_thin 182 = .ok (.istore_n 3, 1) := by decide +kernel
theorem dX5_thin_183 : decode cX5_thin 183 = .ok (.iload_n 3, 1) := by decide +kernel
theorem dX5_thin_184 : decode cX5_thin 184 = .ok (.aload_n 0, 1) := by decide +kernel
theorem dX5_thin_185 : decode cX5_thin 185 = .ok (.getfield 66, 3) := by decide +kernel
theorem dX5_thin_188 : decode cX5_thin 188 = .ok (.if_icmp .ge 62, 3) := by decide +kernel
theorem dX5_thin_191 : decode cX5_thin 191 = .ok (.iload_n 2, 1) := by decide +kernel
theorem dX5_thin_192 : decode cX5_thin 192 = .ok (.aload_n 0, 1) := by decide +kernel
theorem dX5_thin_193 : decode cX5_thin 193 = .ok (.getfield 57, 3) := by decide +kernel
theorem dX5_thin_196 : decode cX5_thin 196 = .ok (.iload_n 3, 1) := by decide +kernel
theorem dX5_thin_197 : decode cX5_thin 197 = .ok (.baload, 1) := by decide +kernel
theorem dX5_thin_198 : decode cX5_thin 198 = .ok (.ifCond .eq 14, 3) := by decide +kernel
theorem dX5_thin_201 : decode cX5_thin 201 = .ok (.aload_n 0, 1) := by decide +kernel
theorem dX5_thin_202 : decode cX5_thin 202 = .ok (.getfield 22, 3) := by decide +kernel
theorem dX5_thin_205 : decode cX5_thin 205 = .ok (.iload_n 3, 1) := by decide +kernel
theorem dX5_thin_206 : decode cX5_thin 206 = .ok (.iaload, 1) := by decide +kernel
theorem dX5_thin_207 : decode cX5_thin 207 = .ok (.iconst 1, 1) := by decide +kernel
theorem dX5_thin_208 : decode cX5_thin 208 = .ok (.iadd, 1) := by decide +kernel
theorem dX5_thin_209 : decode cX5_thin 209 = .ok (.goto 4, 3) := by decide +kernel
theorem dX5_thin_212 : decode cX5_thin 212 = .ok (.iconst 0, 1) := by decide +kernel
theorem dX5_thin_213 : decode cX5_thin 213 = .ok (.iadd, 1) := by decide +kernel
theorem dX5_thin_214 : decode cX5_thin 214 = .ok (.istore_n 2, 1) := by decide +kernel
theorem dX5_thin_215 : decode cX5_thin 215 = .ok (.aload_n 0, 1) := by decide +kernel
theorem dX5_thin_216 : decode cX5_thin 216 = .ok (.getfield 31, 3) := by decide +kernel
theorem dX5_thin_219 : decode cX5_thin 219 = .ok (.iload_n 3, 1) := by decide +kernel
theorem dX5_thin_220 : decode cX5_thin 220 = .ok (.aload_n 0, 1) := by decide +kernel
theorem dX5_thin_221 : decode cX5_thin 221 = .ok (.getfield 31, 3) := by decide +kernel
theorem dX5_thin_224 : decode cX5_thin 224 = .ok (.iload_n 3, 1) := by decide +kernel
theorem dX5_thin_225 : decode cX5_thin 225 = .ok (.baload, 1) := by decide +kernel
theorem dX5_thin_226 : decode cX5_thin 226 = .ok (.ifCond .eq 16, 3) := by decide +kernel
theorem dX5_thin_229 : decode cX5_thin 229 = .ok (.aload_n 0, 1) := by decide +kernel
theorem dX5_thin_230 : decode cX5_thin 230 = .ok (.getfield 57, 3) := by decide +kernel
theorem dX5_thin_233 : decode cX5_thin 233 = .ok (.iload_n 3, 1) := by decide +kernel
theorem dX5_thin_234 : decode cX5_thin 234 = .ok (.baload, 1) := by decide +kernel
theorem dX5_thin_235 : decode cX5_thin 235 = .ok (.ifCond .ne 7, 3) := by decide +kernel
theorem dX5_thin_238 : decode cX5_thin 238 = .ok (.iconst 1, 1) := by decide +kernel
theorem dX5_thin_239 : decode cX5_thin 239 = .ok (.goto 4, 3) := by decide +kernel
theorem dX5_thin_242 : decode cX5_thin 242 = .ok (.iconst 0, 1) := by decide +kernel
theorem dX5_thin_243 : decode cX5_thin 243 = .ok (.bastore, 1) := by decide +kernel
theorem dX5_thin_244 : decode cX5_thin 244 = .ok (.iinc 3 1, 3) := by decide +kernel
theorem dX5_thin_247 : decode cX5_thin 247 = .ok (.goto (-64), 3) := by decide +kernel
theorem dX5_thin_250 : decode cX5_thin 250 = .ok (.iload_n 2, 1) := by decide +kernel
theorem dX5_thin_251 : decode cX5_thin 251 = .ok (.ireturn, 1) := by decide +kernel
theorem dX5_day_0 : decode cX5_day 0 = .ok (.aload_n 0, 1) := by decide +kernel
theorem dX5_day_1 : decode cX5_day 1 = .ok (.iconst 0, 1) := by decide +kernel
theorem dX5_day_2 : decode cX5_day 2 = .ok (.putfield 63, 3) := by decide +kernel
theorem dX5_day_5 : decode cX5_day 5 = .ok (.aload_n 0, 1) := by decide +kernel
theorem dX5_day_6 : decode cX5_day 6 = .ok (.getfield 84, 3) := by decide +kernel
theorem dX5_day_9 : decode cX5_day 9 = .ok (.ireturn, 1) := by decide +kernel
theorem dX5_copies_0 : decode cX5_copies 0 = .ok (.aload_n 0, 1) := by decide +kernel
theorem dX5_copies_1 : decode cX5_copies 1 = .ok (.iconst 0, 1) := by decide +kernel
theorem dX5_copies_2 : decode cX5_copies 2 = .ok (.putfield 63, 3) := by decide +kernel
theorem dX5_copies_5 : decode cX5_copies 5 = .ok (.iconst 0, 1) := by decide +kernel
theorem dX5_copies_6 : decode cX5_copies 6 = .ok (.istore_n 1, 1) := by decide +kernel
theorem dX5_copies_7 : decode cX5_copies 7 = .ok (.iconst 0, 1) := by decide +kernel
theorem dX5_copies_8 : decode cX5_copies 8 = .ok (.istore_n 2, 1) := by decide +kernel
theorem dX5_copies_9 : decode cX5_copies 9 = .ok (.iload_n 2, 1) := by decide +kernel
theorem dX5_copies_10 : decode cX5_copies 10 = .ok (.aload_n 0, 1) := by decide +kernel
theorem dX5_copies_11 : decode cX5_copies 11 = .ok (.getfield 66, 3) := by decide +kernel
theorem dX5_copies_14 : decode cX5_copies 14 = .ok (.if_icmp .ge 26, 3) := by decide +kernel
theorem dX5_copies_17 : decode cX5_copies 17 = .ok (.iload_n 1, 1) := by decide +kernel
theorem dX5_copies_18 : decode cX5_copies 18 = .ok (.aload_n 0, 1) := by decide +kernel
theorem dX5_copies_19 : decode cX5_copies 19 = .ok (.getfield 31, 3) := by decide +kernel
theorem dX5_copies_22 : decode cX5_copies 22 = .ok (.iload_n 2, 1) := by decide +kernel
theorem dX5_copies_23 : decode cX5_copies 23 = .ok (.baload, 1) := by decide +kernel
theorem dX5_copies_24 : decode cX5_copies 24 = .ok (.ifCond .eq 7, 3) := by decide +kernel
theorem dX5_copies_27 : decode cX5_copies 27 = .ok (.iconst 1, 1) := by decide +kernel
theorem dX5_copies_28 : decode cX5_copies 28 = .ok (.goto 4, 3) := by decide +kernel
theorem dX5_copies_31 : decode cX5_copies 31 = .ok (.iconst 0, 1) := by decide +kernel
theorem dX5_copies_32 : decode cX5_copies 32 = .ok (.iadd, 1) := by decide +kernel
theorem dX5_copies_33 : decode cX5_copies 33 = .ok (.istore_n 1, 1) := by decide +kernel
theorem dX5_copies_34 : decode cX5_copies 34 = .ok (.iinc 2 1, 3) := by decide +kernel
theorem dX5_copies_37 : decode cX5_copies 37 = .ok (.goto (-28), 3) := by decide +kernel
theorem dX5_copies_40 : decode cX5_copies 40 = .ok (.iload_n 1, 1) := by decide +kernel
theorem dX5_copies_41 : decode cX5_copies 41 = .ok (.ireturn, 1) := by decide +kernel
theorem dX5_space_0 : decode cX5_space 0 = .ok (.aload_n 0, 1) := by decide +kernel
theorem dX5_space_1 : decode cX5_space 1 = .ok (.iconst 0, 1) := by decide +kernel
theorem dX5_space_2 : decode cX5_space 2 = .ok (.putfield 63, 3) := by decide +kernel
theorem dX5_space_5 : decode cX5_space 5 = .ok (.iconst 0, 1) := by decide +kernel
theorem dX5_space_6 : decode cX5_space 6 = .ok (.istore_n 1, 1) := by decide +kernel
theorem dX5_space_7 : decode cX5_space 7 = .ok (.iconst 0, 1) := by decide +kernel
theorem dX5_space_8 : decode cX5_space 8 = .ok (.istore_n 2, 1) := by decide +kernel
theorem dX5_space_9 : decode cX5_space 9 = .ok (.iload_n 2, 1) := by decide +kernel
theorem dX5_space_10 : decode cX5_space 10 = .ok (.aload_n 0, 1) := by decide +kernel
theorem dX5_space_11 : decode cX5_space 11 = .ok (.getfield 66, 3) := by decide +kernel
theorem dX5_space_14 : decode cX5_space 14 = .ok (.if_icmp .ge 33, 3) := by decide +kernel
theorem dX5_space_17 : decode cX5_space 17 = .ok (.iload_n 1, 1) := by decide +kernel
theorem dX5_space_18 : decode cX5_space 18 = .ok (.aload_n 0, 1) := by decide +kernel
theorem dX5_space_19 : decode cX5_space 19 = .ok (.getfield 31, 3) := by decide +kernel
theorem dX5_space_22 : decode cX5_space 22 = .ok (.iload_n 2, 1) := by decide +kernel
theorem dX5_space_23 : decode cX5_space 23 = .ok (.baload, 1) := by decide +kernel
theorem dX5_space_24 : decode cX5_space 24 = .ok (.ifCond .eq 14, 3) := by decide +kernel
theorem dX5_space_27 : decode cX5_space 27 = .ok (.aload_n 0, 1) := by decide +kernel
theorem dX5_space_28 : decode cX5_space 28 = .ok (.getfield 22, 3) := by decide +kernel
theorem dX5_space_31 : decode cX5_space 31 = .ok (.iload_n 2, 1) := by decide +kernel
theorem dX5_space_32 : decode cX5_space 32 = .ok (.iaload, 1) := by decide +kernel
theorem dX5_space_33 : decode cX5_space 33 = .ok (.iconst 1, 1) := by decide +kernel
theorem dX5_space_34 : decode cX5_space 34 = .ok (.iadd, 1) := by decide +kernel
theorem dX5_space_35 : decode cX5_space 35 = .ok (.goto 4, 3) := by decide +kernel
theorem dX5_space_38 : decode cX5_space 38 = .ok (.iconst 0, 1) := by decide +kernel
theorem dX5_space_39 : decode cX5_space 39 = .ok (.iadd, 1) := by decide +kernel
theorem dX5_space_40 : decode cX5_space 40 = .ok (.istore_n 1, 1) := by decide +kernel
theorem dX5_space_41 : decode cX5_space 41 = .ok (.iinc 2 1, 3) := by decide +kernel
theorem dX5_space_44 : decode cX5_space 44 = .ok (.goto (-35), 3) := by decide +kernel
theorem dX5_space_47 : decode cX5_space 47 = .ok (.iload_n 1, 1) := by decide +kernel
theorem dX5_space_48 : decode cX5_space 48 = .ok (.ireturn, 1) := by decide +kernel
theorem dX5_dayOf_0 : decode cX5_dayOf 0 = .ok (.aload_n 0, 1) := by decide +kernel
theorem dX5_dayOf_1 : decode cX5_dayOf 1 = .ok (.aload_n 0, 1) := by decide +kernel
theorem dX5_dayOf_2 : decode cX5_dayOf 2 = .ok (.iload_n 1, 1) := by decide +kernel
theorem dX5_dayOf_3 : decode cX5_dayOf 3 = .ok (.invokevirtual 99, 3) := by decide +kernel
theorem dX5_dayOf_6 : decode cX5_dayOf 6 = .ok (.iconst 1, 1) := by decide +kernel
theorem dX5_dayOf_7 : decode cX5_dayOf 7 = .ok (.iconst 1, 1) := by decide +kernel
theorem dX5_dayOf_8 : decode cX5_dayOf 8 = .ok (.invokevirtual 80, 3) := by decide +kernel
theorem dX5_dayOf_11 : decode cX5_dayOf 11 = .ok (.ifCond .eq 12, 3) := by decide +kernel
theorem dX5_dayOf_14 : decode cX5_dayOf 14 = .ok (.aload_n 0, 1) := by decide +kernel
theorem dX5_dayOf_15 : decode cX5_dayOf 15 = .ok (.getfield 16, 3) := by decide +kernel
theorem dX5_dayOf_18 : decode cX5_dayOf 18 = .ok (.iload_n 1, 1) := by decide +kernel
theorem dX5_dayOf_19 : decode cX5_dayOf 19 = .ok (.iaload, 1) := by decide +kernel
theorem dX5_dayOf_20 : decode cX5_dayOf 20 = .ok (.goto 4, 3) := by decide +kernel
theorem dX5_dayOf_23 : decode cX5_dayOf 23 = .ok (.iconst 0, 1) := by decide +kernel
theorem dX5_dayOf_24 : decode cX5_dayOf 24 = .ok (.ireturn, 1) := by decide +kernel
theorem dX5_baseOf_0 : decode cX5_baseOf 0 = .ok (.aload_n 0, 1) := by decide +kernel
theorem dX5_baseOf_1 : decode cX5_baseOf 1 = .ok (.aload_n 0, 1) := by decide +kernel
theorem dX5_baseOf_2 : decode cX5_baseOf 2 = .ok (.iload_n 1, 1) := by decide +kernel
theorem dX5_baseOf_3 : decode cX5_baseOf 3 = .ok (.invokevirtual 99, 3) := by decide +kernel
theorem dX5_baseOf_6 : decode cX5_baseOf 6 = .ok (.iconst 1, 1) := by decide +kernel
theorem dX5_baseOf_7 : decode cX5_baseOf 7 = .ok (.iconst 1, 1) := by decide +kernel
theorem dX5_baseOf_8 : decode cX5_baseOf 8 = .ok (.invokevirtual 80, 3) := by decide +kernel
theorem dX5_baseOf_11 : decode cX5_baseOf 11 = .ok (.ifCond .eq 12, 3) := by decide +kernel
theorem dX5_baseOf_14 : decode cX5_baseOf 14 = .ok (.aload_n 0, 1) := by decide +kernel
theorem dX5_baseOf_15 : decode cX5_baseOf 15 = .ok (.getfield 19, 3) := by decide +kernel
theorem dX5_baseOf_18 : decode cX5_baseOf 18 = .ok (.iload_n 1, 1) := by decide +kernel
theorem dX5_baseOf_19 : decode cX5_baseOf 19 = .ok (.iaload, 1) := by decide +kernel
theorem dX5_baseOf_20 : decode cX5_baseOf 20 = .ok (.goto 4, 3) := by decide +kernel
theorem dX5_baseOf_23 : decode cX5_baseOf 23 = .ok (.iconst 0, 1) := by decide +kernel
theorem dX5_baseOf_24 : decode cX5_baseOf 24 = .ok (.ireturn, 1) := by decide +kernel
theorem dX5_keeps_0 : decode cX5_keeps 0 = .ok (.aload_n 0, 1) := by decide +kernel
theorem dX5_keeps_1 : decode cX5_keeps 1 = .ok (.aload_n 0, 1) := by decide +kernel
theorem dX5_keeps_2 : decode cX5_keeps 2 = .ok (.iload_n 1, 1) := by decide +kernel
theorem dX5_keeps_3 : decode cX5_keeps 3 = .ok (.invokevirtual 99, 3) := by decide +kernel
theorem dX5_keeps_6 : decode cX5_keeps 6 = .ok (.iconst 1, 1) := by decide +kernel
theorem dX5_keeps_7 : decode cX5_keeps 7 = .ok (.iconst 1, 1) := by decide +kernel
theorem dX5_keeps_8 : decode cX5_keeps 8 = .ok (.invokevirtual 80, 3) := by decide +kernel
theorem dX5_keeps_11 : decode cX5_keeps 11 = .ok (.ifCond .eq 12, 3) := by decide +kernel
theorem dX5_keeps_14 : decode cX5_keeps 14 = .ok (.aload_n 0, 1) := by decide +kernel
theorem dX5_keeps_15 : decode cX5_keeps 15 = .ok (.getfield 22, 3) := by decide +kernel
theorem dX5_keeps_18 : decode cX5_keeps 18 = .ok (.iload_n 1, 1) := by decide +kernel
theorem dX5_keeps_19 : decode cX5_keeps 19 = .ok (.iaload, 1) := by decide +kernel
theorem dX5_keeps_20 : decode cX5_keeps 20 = .ok (.goto 4, 3) := by decide +kernel
theorem dX5_keeps_23 : decode cX5_keeps 23 = .ok (.iconst 0, 1) := by decide +kernel
theorem dX5_keeps_24 : decode cX5_keeps 24 = .ok (.ireturn, 1) := by decide +kernel
theorem dX5_isPromised_0 : decode cX5_isPromised 0 = .ok (.aload_n 0, 1) := by decide +kernel
theorem dX5_isPromised_1 : decode cX5_isPromised 1 = .ok (.invokevirtual 102, 3) := by decide +kernel
theorem dX5_isPromised_4 : decode cX5_isPromised 4 = .ok (.pop, 1) := by decide +kernel
theorem dX5_isPromised_5 : decode cX5_isPromised 5 = .ok (.aload_n 0, 1) := by decide +kernel
theorem dX5_isPromised_6 : decode cX5_isPromised 6 = .ok (.aload_n 0, 1) := by decide +kernel
theorem dX5_isPromised_7 : decode cX5_isPromised 7 = .ok (.iload_n 1, 1) := by decide +kernel
theorem dX5_isPromised_8 : decode cX5_isPromised 8 = .ok (.invokevirtual 99, 3) := by decide +kernel
theorem dX5_isPromised_11 : decode cX5_isPromised 11 = .ok (.iconst 1, 1) := by decide +kernel
theorem dX5_isPromised_12 : decode cX5_isPromised 12 = .ok (.iconst 1, 1) := by decide +kernel
theorem dX5_isPromised_13 : decode cX5_isPromised 13 = .ok (.invokevirtual 80, 3) := by decide +kernel
theorem dX5_isPromised_16 : decode cX5_isPromised 16 = .ok (.ifCond .eq 16, 3) := by decide +kernel
theorem dX5_isPromised_19 : decode cX5_isPromised 19 = .ok (.aload_n 0, 1) := by decide +kernel
theorem dX5_isPromised_20 : decode cX5_isPromised 20 = .ok (.getfield 51, 3) := by decide +kernel
theorem dX5_isPromised_23 : decode cX5_isPromised 23 = .ok (.iload_n 1, 1) := by decide +kernel
theorem dX5_isPromised_24 : decode cX5_isPromised 24 = .ok (.baload, 1) := by decide +kernel
theorem dX5_isPromised_25 : decode cX5_isPromised 25 = .ok (.ifCond .eq 7, 3) := by decide +kernel
theorem dX5_isPromised_28 : decode cX5_isPromised 28 = .ok (.iconst 1, 1) := by decide +kernel
theorem dX5_isPromised_29 : decode cX5_isPromised 29 = .ok (.goto 4, 3) := by decide +kernel
theorem dX5_isPromised_32 : decode cX5_isPromised 32 = .ok (.iconst 0, 1) := by decide +kernel
theorem dX5_isPromised_33 : decode cX5_isPromised 33 = .ok (.ireturn, 1) := by decide +kernel
theorem dX5_isNeeded_0 : decode cX5_isNeeded 0 = .ok (.aload_n 0, 1) := by decide +kernel
theorem dX5_isNeeded_1 : decode cX5_isNeeded 1 = .ok (.invokevirtual 102, 3) := by decide +kernel
theorem dX5_isNeeded_4 : decode cX5_isNeeded 4 = .ok (.pop, 1) := by decide +kernel
theorem dX5_isNeeded_5 : decode cX5_isNeeded 5 = .ok (.aload_n 0, 1) := by decide +kernel
theorem dX5_isNeeded_6 : decode cX5_isNeeded 6 = .ok (.aload_n 0, 1) := by decide +kernel
theorem dX5_isNeeded_7 : decode cX5_isNeeded 7 = .ok (.iload_n 1, 1) := by decide +kernel
theorem dX5_isNeeded_8 : decode cX5_isNeeded 8 = .ok (.invokevirtual 99, 3) := by decide +kernel
theorem dX5_isNeeded_11 : decode cX5_isNeeded 11 = .ok (.iconst 1, 1) := by decide +kernel
theorem dX5_isNeeded_12 : decode cX5_isNeeded 12 = .ok (.iconst 1, 1) := by decide +kernel
theorem dX5_isNeeded_13 : decode cX5_isNeeded 13 = .ok (.invokevirtual 80, 3) := by decide +kernel
theorem dX5_isNeeded_16 : decode cX5_isNeeded 16 = .ok (.ifCond .eq 16, 3) := by decide +kernel
theorem dX5_isNeeded_19 : decode cX5_isNeeded 19 = .ok (.aload_n 0, 1) := by decide +kernel
theorem dX5_isNeeded_20 : decode cX5_isNeeded 20 = .ok (.getfield 54, 3) := by decide +kernel
theorem dX5_isNeeded_23 : decode cX5_isNeeded 23 = .ok (.iload_n 1, 1) := by decide +kernel
theorem dX5_isNeeded_24 : decode cX5_isNeeded 24 = .ok (.baload, 1) := by decide +kernel
theorem dX5_isNeeded_25 : decode cX5_isNeeded 25 = .ok (.ifCond .eq 7, 3) := by decide +kernel
theorem dX5_isNeeded_28 : decode cX5_isNeeded 28 = .ok (.iconst 1, 1) := by decide +kernel
theorem dX5_isNeeded_29 : decode cX5_isNeeded 29 = .ok (.goto 4, 3) := by decide +kernel
theorem dX5_isNeeded_32 : decode cX5_isNeeded 32 = .ok (.iconst 0, 1) := by decide +kernel
theorem dX5_isNeeded_33 : decode cX5_isNeeded 33 = .ok (.ireturn, 1) := by decide +kernel
theorem dX5_isProved_0 : decode cX5_isProved 0 = .ok (.aload_n 0, 1) := by decide +kernel
theorem dX5_isProved_1 : decode cX5_isProved 1 = .ok (.aload_n 0, 1) := by decide +kernel
theorem dX5_isProved_2 : decode cX5_isProved 2 = .ok (.iload_n 1, 1) := by decide +kernel
theorem dX5_isProved_3 : decode cX5_isProved 3 = .ok (.invokevirtual 99, 3) := by decide +kernel
theorem dX5_isProved_6 : decode cX5_isProved 6 = .ok (.iconst 1, 1) := by decide +kernel
theorem dX5_isProved_7 : decode cX5_isProved 7 = .ok (.iconst 1, 1) := by decide +kernel
theorem dX5_isProved_8 : decode cX5_isProved 8 = .ok (.invokevirtual 80, 3) := by decide +kernel
theorem dX5_isProved_11 : decode cX5_isProved 11 = .ok (.ifCond .eq 16, 3) := by decide +kernel
theorem dX5_isProved_14 : decode cX5_isProved 14 = .ok (.aload_n 0, 1) := by decide +kernel
theorem dX5_isProved_15 : decode cX5_isProved 15 = .ok (.getfield 38, 3) := by decide +kernel
theorem dX5_isProved_18 : decode cX5_isProved 18 = .ok (.iload_n 1, 1) := by decide +kernel
theorem dX5_isProved_19 : decode cX5_isProved 19 = .ok (.baload, 1) := by decide +kernel
theorem dX5_isProved_20 : decode cX5_isProved 20 = .ok (.ifCond .eq 7, 3) := by decide +kernel
theorem dX5_isProved_23 : decode cX5_isProved 23 = .ok (.iconst 1, 1) := by decide +kernel
theorem dX5_isProved_24 : decode cX5_isProved 24 = .ok (.goto 4, 3) := by decide +kernel
theorem dX5_isProved_27 : decode cX5_isProved 27 = .ok (.iconst 0, 1) := by decide +kernel
theorem dX5_isProved_28 : decode cX5_isProved 28 = .ok (.ireturn, 1) := by decide +kernel
theorem dX5_restore_0 : decode cX5_restore 0 = .ok (.aload_n 0, 1) := by decide +kernel
theorem dX5_restore_1 : decode cX5_restore 1 = .ok (.aload_n 0, 1) := by decide +kernel
theorem dX5_restore_2 : decode cX5_restore 2 = .ok (.iload_n 1, 1) := by decide +kernel
theorem dX5_restore_3 : decode cX5_restore 3 = .ok (.invokevirtual 99, 3) := by decide +kernel
theorem dX5_restore_6 : decode cX5_restore 6 = .ok (.ifCond .eq 14, 3) := by decide +kernel
theorem dX5_restore_9 : decode cX5_restore 9 = .ok (.iload_n 2, 1) := by decide +kernel
theorem dX5_restore_10 : decode cX5_restore 10 = .ok (.invokestatic 73, 3) := by decide +kernel
theorem dX5_restore_13 : decode cX5_restore 13 = .ok (.ifCond .eq 7, 3) := by decide +kernel
theorem dX5_restore_16 : decode cX5_restore 16 = .ok (.iconst 1, 1) := by decide +kernel
theorem dX5_restore_17 : decode cX5_restore 17 = .ok (.goto 4, 3) := by decide +kernel
theorem dX5_restore_20 : decode cX5_restore 20 = .ok (.iconst 0, 1) := by decide +kernel
theorem dX5_restore_21 : decode cX5_restore 21 = .ok (.iconst 1, 1) := by decide +kernel
theorem dX5_restore_22 : decode cX5_restore 22 = .ok (.iconst 1, 1) := by decide +kernel
theorem dX5_restore_23 : decode cX5_restore 23 = .ok (.invokevirtual 80, 3) := by decide +kernel
theorem dX5_restore_26 : decode cX5_restore 26 = .ok (.ifCond .ne 5, 3) := by decide +kernel
theorem dX5_restore_29 : decode cX5_restore 29 = .ok (.iconst 0, 1) := by decide +kernel
theorem dX5_restore_30 : decode cX5_restore 30 = .ok (.ireturn, 1) := by decide +kernel
theorem dX5_restore_31 : decode cX5_restore 31 = .ok (.iload_n 1, 1) := by decide +kernel
theorem dX5_restore_32 : decode cX5_restore 32 = .ok (.istore_n 3, 1) := by decide +kernel
theorem dX5_restore_33 : decode cX5_restore 33 = .ok (.aload_n 0, 1) := by decide +kernel
theorem dX5_restore_34 : decode cX5_restore 34 = .ok (.getfield 28, 3) := by decide +kernel
theorem dX5_restore_37 : decode cX5_restore 37 = .ok (.bipush 10, 2) := by decide +kernel
theorem dX5_restore_39 : decode cX5_restore 39 = .ok (.iload_n 3, 1) := by decide +kernel
theorem dX5_restore_40 : decode cX5_restore 40 = .ok (.imul, 1) := by decide +kernel
theorem dX5_restore_41 : decode cX5_restore 41 = .ok (.iload_n 2, 1) := by decide +kernel
theorem dX5_restore_42 : decode cX5_restore 42 = .ok (.iadd, 1) := by decide +kernel
theorem dX5_restore_43 : decode cX5_restore 43 = .ok (.iaload, 1) := by decide +kernel
theorem dX5_restore_44 : decode cX5_restore 44 = .ok (.iconst (-1), 1) := by decide +kernel
theorem dX5_restore_45 : decode cX5_restore 45 = .ok (.if_icmp .ne 13, 3) := by decide +kernel
theorem dX5_restore_48 : decode cX5_restore 48 = .ok (.aload_n 0, 1) := by decide +kernel
theorem dX5_restore_49 : decode cX5_restore 49 = .ok (.getfield 19, 3) := by decide +kernel
theorem dX5_restore_52 : decode cX5_restore 52 = .ok (.iload_n 3, 1) := by decide +kernel
theorem dX5_restore_53 : decode cX5_restore 53 = .ok (.iaload, 1) := by decide +kernel
theorem dX5_restore_54 : decode cX5_restore 54 = .ok (.istore_n 3, 1) := by decide +kernel
theorem dX5_restore_55 : decode cX5_restore 55 = .ok (.goto (-22), 3) := by decide +kernel
theorem dX5_restore_58 : decode cX5_restore 58 = .ok (.aload_n 0, 1) := by decide +kernel
theorem dX5_restore_59 : decode cX5_restore 59 = .ok (.getfield 28, 3) := by decide +kernel
theorem dX5_restore_62 : decode cX5_restore 62 = .ok (.bipush 10, 2) := by decide +kernel
theorem dX5_restore_64 : decode cX5_restore 64 = .ok (.iload_n 3, 1) := by decide +kernel
theorem dX5_restore_65 : decode cX5_restore 65 = .ok (.imul, 1) := by decide +kernel
theorem dX5_restore_66 : decode cX5_restore 66 = .ok (.iload_n 2, 1) := by decide +kernel
theorem dX5_restore_67 : decode cX5_restore 67 = .ok (.iadd, 1) := by decide +kernel
theorem dX5_restore_68 : decode cX5_restore 68 = .ok (.iaload, 1) := by decide +kernel
theorem dX5_restore_69 : decode cX5_restore 69 = .ok (.ireturn, 1) := by decide +kernel
theorem dX5_restoreByChanges_0 : decode cX5_restoreByChanges 0 = .ok (.aload_n 0, 1) := by decide +kernel
theorem dX5_restoreByChanges_1 : decode cX5_restoreByChanges 1 = .ok (.iload_n 1, 1) := by decide +kernel
theorem dX5_restoreByChanges_2 : decode cX5_restoreByChanges 2 = .ok (.iload_n 2, 1) := by decide +kernel
theorem dX5_restoreByChanges_3 : decode cX5_restoreByChanges 3 = .ok (.invokevirtual 108, 3) := by decide +kernel
theorem dX5_restoreByChanges_6 : decode cX5_restoreByChanges 6 = .ok (.ireturn, 1) := by decide +kernel
theorem dX5_isDay_0 : decode cX5_isDay 0 = .ok (.iload_n 0, 1) := by decide +kernel
theorem dX5_isDay_1 : decode cX5_isDay 1 = .ok (.iconst 0, 1) := by decide +kernel
theorem dX5_isDay_2 : decode cX5_isDay 2 = .ok (.sipush 364, 3) := by decide +kernel
theorem dX5_isDay_5 : decode cX5_isDay 5 = .ok (.invokestatic 69, 3) := by decide +kernel
theorem dX5_isDay_8 : decode cX5_isDay 8 = .ok (.ireturn, 1) := by decide +kernel
theorem dX5_onCall_0 : decode cX5_onCall 0 = .ok (.aload_n 0, 1) := by decide +kernel
theorem dX5_onCall_1 : decode cX5_onCall 1 = .ok (.iload_n 1, 1) := by decide +kernel
theorem dX5_onCall_2 : decode cX5_onCall 2 = .ok (.invokestatic 112, 3) := by decide +kernel
theorem dX5_onCall_5 : decode cX5_onCall 5 = .ok (.iconst 1, 1) := by decide +kernel
theorem dX5_onCall_6 : decode cX5_onCall 6 = .ok (.iconst 1, 1) := by decide +kernel
theorem dX5_onCall_7 : decode cX5_onCall 7 = .ok (.invokevirtual 80, 3) := by decide +kernel
theorem dX5_onCall_10 : decode cX5_onCall 10 = .ok (.ifCond .eq 12, 3) := by decide +kernel
theorem dX5_onCall_13 : decode cX5_onCall 13 = .ok (.aload_n 0, 1) := by decide +kernel
theorem dX5_onCall_14 : decode cX5_onCall 14 = .ok (.getfield 60, 3) := by decide +kernel
theorem dX5_onCall_17 : decode cX5_onCall 17 = .ok (.iload_n 1, 1) := by decide +kernel
theorem dX5_onCall_18 : decode cX5_onCall 18 = .ok (.iaload, 1) := by decide +kernel
theorem dX5_onCall_19 : decode cX5_onCall 19 = .ok (.goto 4, 3) := by decide +kernel
theorem dX5_onCall_22 : decode cX5_onCall 22 = .ok (.iconst 0, 1) := by decide +kernel
theorem dX5_onCall_23 : decode cX5_onCall 23 = .ok (.ireturn, 1) := by decide +kernel
theorem dX5_isTwice_0 : decode cX5_isTwice 0 = .ok (.iload_n 1, 1) := by decide +kernel
theorem dX5_isTwice_1 : decode cX5_isTwice 1 = .ok (.ifCond .le 20, 3) := by decide +kernel
theorem dX5_isTwice_4 : decode cX5_isTwice 4 = .ok (.aload_n 0, 1) := by decide +kernel
theorem dX5_isTwice_5 : decode cX5_isTwice 5 = .ok (.getfield 60, 3) := by decide +kernel
theorem dX5_isTwice_8 : decode cX5_isTwice 8 = .ok (.iload_n 1, 1) := by decide +kernel
theorem dX5_isTwice_9 : decode cX5_isTwice 9 = .ok (.iconst 1, 1) := by decide +kernel
theorem dX5_isTwice_10 : decode cX5_isTwice 10 = .ok (.isub, 1) := by decide +kernel
theorem dX5_isTwice_11 : decode cX5_isTwice 11 = .ok (.iaload, 1) := by decide +kernel
theorem dX5_isTwice_12 : decode cX5_isTwice 12 = .ok (.aload_n 0, 1) := by decide +kernel
theorem dX5_isTwice_13 : decode cX5_isTwice 13 = .ok (.getfield 60, 3) := by decide +kernel
theorem dX5_isTwice_16 : decode cX5_isTwice 16 = .ok (.iload_n 1, 1) := by decide +kernel
theorem dX5_isTwice_17 : decode cX5_isTwice 17 = .ok (.iaload, 1) := by decide +kernel
theorem dX5_isTwice_18 : decode cX5_isTwice 18 = .ok (.if_icmp .eq 27, 3) := by decide +kernel
theorem dX5_isTwice_21 : decode cX5_isTwice 21 = .ok (.iload_n 1, 1) := by decide +kernel
theorem dX5_isTwice_22 : decode cX5_isTwice 22 = .ok (.sipush 364, 3) := by decide +kernel
theorem dX5_isTwice_25 : decode cX5_isTwice 25 = .ok (.if_icmp .ge 24, 3) := by decide +kernel
theorem dX5_isTwice_28 : decode cX5_isTwice 28 = .ok (.aload_n 0, 1) := by decide +kernel
theorem dX5_isTwice_29 : decode cX5_isTwice 29 = .ok (.getfield 60, 3) := by decide +kernel
theorem dX5_isTwice_32 : decode cX5_isTwice 32 = .ok (.iload_n 1, 1) := by decide +kernel
theorem dX5_isTwice_33 : decode cX5_isTwice 33 = .ok (.iconst 1, 1) := by decide +kernel
theorem dX5_isTwice_34 : decode cX5_isTwice 34 = .ok (.iadd, 1) := by decide +kernel
theorem dX5_isTwice_35 : decode cX5_isTwice 35 = .ok (.iaload, 1) := by decide +kernel
theorem dX5_isTwice_36 : decode cX5_isTwice 36 = .ok (.aload_n 0, 1) := by decide +kernel
theorem dX5_isTwice_37 : decode cX5_isTwice 37 = .ok (.getfield 60, 3) := by decide +kernel
theorem dX5_isTwice_40 : decode cX5_isTwice 40 = .ok (.iload_n 1, 1) := by decide +kernel
theorem dX5_isTwice_41 : decode cX5_isTwice 41 = .ok (.iaload, 1) := by decide +kernel
theorem dX5_isTwice_42 : decode cX5_isTwice 42 = .ok (.if_icmp .ne 7, 3) := by decide +kernel
theorem dX5_isTwice_45 : decode cX5_isTwice 45 = .ok (.iconst 1, 1) := by decide +kernel
theorem dX5_isTwice_46 : decode cX5_isTwice 46 = .ok (.goto 4, 3) := by decide +kernel
theorem dX5_isTwice_49 : decode cX5_isTwice 49 = .ok (.iconst 0, 1) := by decide +kernel
theorem dX5_isTwice_50 : decode cX5_isTwice 50 = .ok (.ireturn, 1) := by decide +kernel
theorem dX5_exchanges_0 : decode cX5_exchanges 0 = .ok (.aload_n 0, 1) := by decide +kernel
theorem dX5_exchanges_1 : decode cX5_exchanges 1 = .ok (.getfield 60, 3) := by decide +kernel
theorem dX5_exchanges_4 : decode cX5_exchanges 4 = .ok (.iload_n 1, 1) := by decide +kernel
theorem dX5_exchanges_5 : decode cX5_exchanges 5 = .ok (.iaload, 1) := by decide +kernel
theorem dX5_exchanges_6 : decode cX5_exchanges 6 = .ok (.istore_n 3, 1) := by decide +kernel
theorem dX5_exchanges_7 : decode cX5_exchanges 7 = .ok (.aload_n 0, 1) := by decide +kernel
theorem dX5_exchanges_8 : decode cX5_exchanges 8 = .ok (.getfield 60, 3) := by decide +kernel
theorem dX5_exchanges_11 : decode cX5_exchanges 11 = .ok (.iload_n 1, 1) := by decide +kernel
theorem dX5_exchanges_12 : decode cX5_exchanges 12 = .ok (.aload_n 0, 1) := by decide +kernel
theorem dX5_exchanges_13 : decode cX5_exchanges 13 = .ok (.getfield 60, 3) := by decide +kernel
theorem dX5_exchanges_16 : decode cX5_exchanges 16 = .ok (.iload_n 2, 1) := by decide +kernel
theorem dX5_exchanges_17 : decode cX5_exchanges 17 = .ok (.iaload, 1) := by decide +kernel
theorem dX5_exchanges_18 : decode cX5_exchanges 18 = .ok (.iastore, 1) := by decide +kernel
theorem dX5_exchanges_19 : decode cX5_exchanges 19 = .ok (.aload_n 0, 1) := by decide +kernel
theorem dX5_exchanges_20 : decode cX5_exchanges 20 = .ok (.getfield 60, 3) := by decide +kernel
theorem dX5_exchanges_23 : decode cX5_exchanges 23 = .ok (.iload_n 2, 1) := by decide +kernel
theorem dX5_exchanges_24 : decode cX5_exchanges 24 = .ok (.iload_n 3, 1) := by decide +kernel
theorem dX5_exchanges_25 : decode cX5_exchanges 25 = .ok (.iastore, 1) := by decide +kernel
theorem dX5_exchanges_26 : decode cX5_exchanges 26 = .ok (.return_, 1) := by decide +kernel
theorem dX5_swap_0 : decode cX5_swap 0 = .ok (.iload_n 1, 1) := by decide +kernel
theorem dX5_swap_1 : decode cX5_swap 1 = .ok (.aload_n 0, 1) := by decide +kernel
theorem dX5_swap_2 : decode cX5_swap 2 = .ok (.getfield 84, 3) := by decide +kernel
theorem dX5_swap_5 : decode cX5_swap 5 = .ok (.sipush 364, 3) := by decide +kernel
theorem dX5_swap_8 : decode cX5_swap 8 = .ok (.invokestatic 69, 3) := by decide +kernel
theorem dX5_swap_11 : decode cX5_swap 11 = .ok (.ifCond .eq 26, 3) := by decide +kernel
theorem dX5_swap_14 : decode cX5_swap 14 = .ok (.iload_n 2, 1) := by decide +kernel
theorem dX5_swap_15 : decode cX5_swap 15 = .ok (.aload_n 0, 1) := by decide +kernel
theorem dX5_swap_16 : decode cX5_swap 16 = .ok (.getfield 84, 3) := by decide +kernel
theorem dX5_swap_19 : decode cX5_swap 19 = .ok (.sipush 364, 3) := by decide +kernel
theorem dX5_swap_22 : decode cX5_swap 22 = .ok (.invokestatic 69, 3) := by decide +kernel
theorem dX5_swap_25 : decode cX5_swap 25 = .ok (.ifCond .eq 12, 3) := by decide +kernel
theorem dX5_swap_28 : decode cX5_swap 28 = .ok (.iload_n 1, 1) := by decide +kernel
theorem dX5_swap_29 : decode cX5_swap 29 = .ok (.iload_n 2, 1) := by decide +kernel
theorem dX5_swap_30 : decode cX5_swap 30 = .ok (.if_icmp .eq 7, 3) := by decide +kernel
theorem dX5_swap_33 : decode cX5_swap 33 = .ok (.iconst 1, 1) := by decide +kernel
theorem dX5_swap_34 : decode cX5_swap 34 = .ok (.goto 4, 3) := by decide +kernel
theorem dX5_swap_37 : decode cX5_swap 37 = .ok (.iconst 0, 1) := by decide +kernel
theorem dX5_swap_38 : decode cX5_swap 38 = .ok (.istore_n 3, 1) := by decide +kernel
theorem dX5_swap_39 : decode cX5_swap 39 = .ok (.iconst 0, 1) := by decide +kernel
theorem dX5_swap_40 : decode cX5_swap 40 = .ok (.istore 4, 2) := by decide +kernel
theorem dX5_swap_42 : decode cX5_swap 42 = .ok (.iload_n 3, 1) := by decide +kernel
theorem dX5_swap_43 : decode cX5_swap 43 = .ok (.ifCond .eq 43, 3) := by decide +kernel
theorem dX5_swap_46 : decode cX5_swap 46 = .ok (.aload_n 0, 1) := by decide +kernel
theorem dX5_swap_47 : decode cX5_swap 47 = .ok (.iload_n 1, 1) := by decide +kernel
theorem dX5_swap_48 : decode cX5_swap 48 = .ok (.iload_n 2, 1) := by decide +kernel
theorem dX5_swap_49 : decode cX5_swap 49 = .ok (.invokevirtual 115, 3) := by decide +kernel
theorem dX5_swap_52 : decode cX5_swap 52 = .ok (.aload_n 0, 1) := by decide +kernel
theorem dX5_swap_53 : decode cX5_swap 53 = .ok (.iload_n 1, 1) := by decide +kernel
theorem dX5_swap_54 : decode cX5_swap 54 = .ok (.invokevirtual 118, 3) := by decide +kernel
theorem dX5_swap_57 : decode cX5_swap 57 = .ok (.ifCond .ne 15, 3) := by decide +kernel
theorem dX5_swap_60 : decode cX5_swap 60 = .ok (.aload_n 0, 1) := by decide +kernel
theorem dX5_swap_61 : decode cX5_swap 61 = .ok (.iload_n 2, 1) := by decide +kernel
theorem dX5_swap_62 : decode cX5_swap 62 = .ok (.invokevirtual 118, 3) := by decide +kernel
theorem dX5_swap_65 : decode cX5_swap 65 = .ok (.ifCond .ne 7, 3) := by decide +kernel
theorem dX5_swap_68 : decode cX5_swap 68 = .ok (.iconst 1, 1) := by decide +kernel
theorem dX5_swap_69 : decode cX5_swap 69 = .ok (.goto 4, 3) := by decide +kernel
theorem dX5_swap_72 : decode cX5_swap 72 = .ok (.iconst 0, 1) := by decide +kernel
theorem dX5_swap_73 : decode cX5_swap 73 = .ok (.istore 4, 2) := by decide +kernel
theorem dX5_swap_75 : decode cX5_swap 75 = .ok (.iload 4, 2) := by decide +kernel
theorem dX5_swap_77 : decode cX5_swap 77 = .ok (.ifCond .ne 9, 3) := by decide +kernel
theorem dX5_swap_80 : decode cX5_swap 80 = .ok (.aload_n 0, 1) := by decide +kernel
theorem dX5_swap_81 : decode cX5_swap 81 = .ok (.iload_n 1, 1) := by decide +kernel
theorem dX5_swap_82 : decode cX5_swap 82 = .ok (.iload_n 2, 1) := by decide +kernel
theorem dX5_swap_83 : decode cX5_swap 83 = .ok (.invokevirtual 115, 3) := by decide +kernel
theorem dX5_swap_86 : decode cX5_swap 86 = .ok (.aload_n 0, 1) := by decide +kernel
theorem dX5_swap_87 : decode cX5_swap 87 = .ok (.iload_n 3, 1) := by decide +kernel
theorem dX5_swap_88 : decode cX5_swap 88 = .ok (.iload 4, 2) := by decide +kernel
theorem dX5_swap_90 : decode cX5_swap 90 = .ok (.iconst 1, 1) := by decide +kernel
theorem dX5_swap_91 : decode cX5_swap 91 = .ok (.invokevirtual 80, 3) := by decide +kernel
theorem dX5_swap_94 : decode cX5_swap 94 = .ok (.ifCond .eq 12, 3) := by decide +kernel
theorem dX5_swap_97 : decode cX5_swap 97 = .ok (.aload_n 0, 1) := by decide +kernel
theorem dX5_swap_98 : decode cX5_swap 98 = .ok (.getfield 60, 3) := by decide +kernel
theorem dX5_swap_101 : decode cX5_swap 101 = .ok (.iload_n 1, 1) := by decide +kernel
theorem dX5_swap_102 : decode cX5_swap 102 = .ok (.iaload, 1) := by decide +kernel
theorem dX5_swap_103 : decode cX5_swap 103 = .ok (.goto 4, 3) := by decide +kernel
theorem dX5_swap_106 : decode cX5_swap 106 = .ok (.iconst 0, 1) := by decide +kernel
theorem dX5_swap_107 : decode cX5_swap 107 = .ok (.ireturn, 1) := by decide +kernel
theorem dX5_alarm_0 : decode cX5_alarm 0 = .ok (.aload_n 0, 1) := by decide +kernel
theorem dX5_alarm_1 : decode cX5_alarm 1 = .ok (.iload_n 1, 1) := by decide +kernel
theorem dX5_alarm_2 : decode cX5_alarm 2 = .ok (.iconst 0, 1) := by decide +kernel
theorem dX5_alarm_3 : decode cX5_alarm 3 = .ok (.bipush 31, 2) := by decide +kernel
theorem dX5_alarm_5 : decode cX5_alarm 5 = .ok (.invokestatic 69, 3) := by decide +kernel
theorem dX5_alarm_8 : decode cX5_alarm 8 = .ok (.iconst 1, 1) := by decide +kernel
theorem dX5_alarm_9 : decode cX5_alarm 9 = .ok (.iconst 1, 1) := by decide +kernel
theorem dX5_alarm_10 : decode cX5_alarm 10 = .ok (.invokevirtual 80, 3) := by decide +kernel
theorem dX5_alarm_13 : decode cX5_alarm 13 = .ok (.ifCond .ne 5, 3) := by decide +kernel
theorem dX5_alarm_16 : decode cX5_alarm 16 = .ok (.iconst 0, 1) := by decide +kernel
theorem dX5_alarm_17 : decode cX5_alarm 17 = .ok (.ireturn, 1) := by decide +kernel
theorem dX5_alarm_18 : decode cX5_alarm 18 = .ok (.iconst 0, 1) := by decide +kernel
theorem dX5_alarm_19 : decode cX5_alarm 19 = .ok (.istore_n 2, 1) := by decide +kernel
theorem dX5_alarm_20 : decode cX5_alarm 20 = .ok (.iload_n 2, 1) := by decide +kernel
theorem dX5_alarm_21 : decode cX5_alarm 21 = .ok (.iconst 4, 1) := by decide +kernel
theorem dX5_alarm_22 : decode cX5_alarm 22 = .ok (.if_icmp .ge 40, 3) := by decide +kernel
theorem dX5_alarm_25 : decode cX5_alarm 25 = .ok (.iload_n 1, 1) := by decide +kernel
theorem dX5_alarm_26 : decode cX5_alarm 26 = .ok (.aload_n 0, 1) := by decide +kernel
theorem dX5_alarm_27 : decode cX5_alarm 27 = .ok (.getfield 60, 3) := by decide +kernel
theorem dX5_alarm_30 : decode cX5_alarm 30 = .ok (.aload_n 0, 1) := by decide +kernel
theorem dX5_alarm_31 : decode cX5_alarm 31 = .ok (.getfield 84, 3) := by decide +kernel
theorem dX5_alarm_34 : decode cX5_alarm 34 = .ok (.iload_n 2, 1) := by decide +kernel
theorem dX5_alarm_35 : decode cX5_alarm 35 = .ok (.iadd, 1) := by decide +kernel
theorem dX5_alarm_36 : decode cX5_alarm 36 = .ok (.iaload, 1) := by decide +kernel
theorem dX5_alarm_37 : decode cX5_alarm 37 = .ok (.ishr, 1) := by decide +kernel
theorem dX5_alarm_38 : decode cX5_alarm 38 = .ok (.iconst 1, 1) := by decide +kernel
theorem dX5_alarm_39 : decode cX5_alarm 39 = .ok (.iand, 1) := by decide +kernel
theorem dX5_alarm_40 : decode cX5_alarm 40 = .ok (.iconst 1, 1) := by decide +kernel
theorem dX5_alarm_41 : decode cX5_alarm 41 = .ok (.if_icmp .ne 15, 3) := by decide +kernel
theorem dX5_alarm_44 : decode cX5_alarm 44 = .ok (.aload_n 0, 1) := by decide +kernel
theorem dX5_alarm_45 : decode cX5_alarm 45 = .ok (.getfield 60, 3) := by decide +kernel
theorem dX5_alarm_48 : decode cX5_alarm 48 = .ok (.aload_n 0, 1) := by decide +kernel
theorem dX5_alarm_49 : decode cX5_alarm 49 = .ok (.getfield 84, 3) := by decide +kernel
theorem dX5_alarm_52 : decode cX5_alarm 52 = .ok (.iload_n 2, 1) := by decide +kernel
theorem dX5_alarm_53 : decode cX5_alarm 53 = .ok (.iadd, 1) := by decide +kernel
theorem dX5_alarm_54 : decode cX5_alarm 54 = .ok (.iaload, 1) := by decide +kernel
theorem dX5_alarm_55 : decode cX5_alarm 55 = .ok (.ireturn, 1) := by decide +kernel
theorem dX5_alarm_56 : decode cX5_alarm 56 = .ok (.iinc 2 1, 3) := by decide +kernel
theorem dX5_alarm_59 : decode cX5_alarm 59 = .ok (.goto (-39), 3) := by decide +kernel
theorem dX5_alarm_62 : decode cX5_alarm 62 = .ok (.iconst (-1), 1) := by decide +kernel
theorem dX5_alarm_63 : decode cX5_alarm 63 = .ok (.ireturn, 1) := by decide +kernel
end
section
def k_nestF : List (String × Nat × String × String × String × String) := [(RX4, 45, RX1, "changes", "I", RX4), (RX4, 65, RX3, "made", "I", RX4), (RX4, 128, RX3, "daysRule", "I", RX4), (RX4, 131, RX3, "weeksRule", "I", RX4), (RX4, 134, RX3, "monthsRule", "I", RX4), (RX4, 82, RX0, "number", "I", RX4), (RX3, 72, RX0, "madeOn", "I", RX4), (RX4, 149, RX0, "madeOn", "I", RX4), (RX3, 81, RX0, "base", "LDrillVault$Copy;", RX4), (RX4, 152, RX0, "base", "LDrillVault$Copy;", RX4), (RX4, 91, RX0, "changesAhead", "I", RX4), (RX4, 156, RX0, "keptContents", "I", RX4), (RX4, 102, RX0, "damaged", "Z", RX4), (RX4, 106, RX0, "proved", "Z", RX4), (RX3, 69, RX0, "proved", "Z", RX4), (RX3, 34, RX0, "promised", "Z", RX4), (RX4, 162, RX0, "promised", "Z", RX4), (RX3, 38, RX0, "needed", "Z", RX4), (RX4, 165, RX0, "needed", "Z", RX4), (RX3, 66, RX0, "held", "Z", RX4)]
def k_nestM : List (String × Nat × MethodName × String) := [(RX4, 9, ⟨RX1, "<init>", "()V"⟩, RX4), (RX4, 18, ⟨RX3, "<init>", "()V"⟩, RX4)]
def k_strs : List (String × Nat × String) := [(RX4, 199, "no such file"), (RX4, 40, "content is out of range"), (RX4, 50, "no more changes"), (RX4, 61, "days is out of range"), (RX4, 63, "beyond the last day"), (RX4, 68, "no more copies"), (RX4, 89, "no more copies, or no base"), (RX4, 205, "no such copy"), (RX4, 124, "weeks is out of range"), (RX4, 126, "months is out of range"), (RX4, 175, "day is out of range"), (RX4, 184, "day or other is out of range, or both are the same"), (RX4, 190, "somebody would be on call on two days in a row"), (RX4, 192, "answering is out of range")]
def k_cast : List (String × String) := [("java/lang/IndexOutOfBoundsException", "java/lang/IndexOutOfBoundsException"), ("java/lang/IllegalArgumentException", "java/lang/IllegalArgumentException"), ("java/lang/IllegalStateException", "java/lang/IllegalStateException")]
def k_ncs : List (String × String) := [("java/lang/IndexOutOfBoundsException", "java/lang/IllegalArgumentException"), ("java/lang/IndexOutOfBoundsException", "java/lang/IllegalStateException"), ("java/lang/IllegalArgumentException", "java/lang/IndexOutOfBoundsException"), ("java/lang/IllegalArgumentException", "java/lang/IllegalStateException"), ("java/lang/IllegalStateException", "java/lang/IndexOutOfBoundsException"), ("java/lang/IllegalStateException", "java/lang/IllegalArgumentException")]
/-! THE WORLD: cells by NAMES (kind, index); G says what a named cell holds, ad where it lies -/
abbrev k_g : Type := va_G × (Nat → ClassId) × Nat
abbrev k_G : Type := Nat → Nat → Option va_E
abbrev k_AD : Type := Nat → Nat → Nat
def k_tys (g : k_g) : List (ClassId × FieldType) := [(g.2.1 0, .int), (g.2.1 1, .boolean), (g.2.1 2, .long), (g.2.1 3, .object RX0)]
def k_A (g : k_g) : Nat → Prop := fun q => g.2.2 ≤ q
def k_Ca (q : String × String) (U : State) : Prop := ∃ c t : ClassId, U.vm.findClass q.1 = some c ∧ U.vm.findClass q.2 = some t ∧ U.vm.assignable c t = true
theorem k_Ca.moved {q : String × String} {u U : State} (hvm : u.vm.Alike U.vm) (h : k_Ca q u) : k_Ca q U := by
  obtain ⟨c, t, h1, h2, h3⟩ := h
  exact ⟨c, t, by rw [hvm.findClass]; exact h1, by rw [hvm.findClass]; exact h2, by rw [hvm.assignable]; exact h3⟩
theorem k_Ca.of {args : Array Value} {s : State} {C T : String} (h : (Cond.castable C T).before args s = true) : k_Ca (C, T) s := Cond.castable_spec h
theorem k_Ca.use {args : Array Value} {s : State} {C T : String} (h : k_Ca (C, T) s) : (Cond.castable C T).before args s = true := by
  obtain ⟨c, t, h1, h2, h3⟩ := h
  have h1' : s.vm.findClass C = some c := h1
  have h2' : s.vm.findClass T = some t := h2
  simp only [Cond.before, Cond.holds, Cond.value]
  simp [h1', h2', h3]
def k_De (x : MethodName) (U : State) : Prop := (Cond.declares x).before #[] U = true
theorem k_De.moved {x : MethodName} {u U : State} (hvm : u.vm.Alike U.vm) (h : k_De x u) : k_De x U := by
  have h1 : (Cond.declares x).before #[] (u.setVm U.vm) = true := by
    rw [Cond.declares_setVm hvm]
    exact h
  have e := Cond.onTables_vm (A := #[]) (A' := #[]) (U := u) (U' := U) U.vm (Cond.declares x) rfl
  have hU : U.setVm U.vm = U := rfl
  rw [hU] at e
  unfold k_De
  rw [← e]
  exact h1
def k_decs : List MethodName := [Bundle.initS "java/lang/RuntimeException", Bundle.initS "java/lang/Exception", Bundle.initS "java/lang/Throwable"]
/-- the words that no good list bears: what the nest links, strings, exceptions' classes -/
def k_K (g : k_g) (U : State) : Prop := va_K g.1 vwCl (k_tys g) U ∧ (∀ w ∈ k_nestF, va_Nw (.fieldLinkNest w.1 w.2.1 w.2.2.1 w.2.2.2.1 w.2.2.2.2.1 w.2.2.2.2.2) U) ∧ (∀ w ∈ k_nestM, va_Nw (.methodLinkNest w.1 w.2.1 w.2.2.1 w.2.2.2) U) ∧ (∀ q ∈ k_strs, ∃ a, vk_R q.1 q.2.1 q.2.2 a U) ∧ (∀ q ∈ k_cast, k_Ca q U) ∧ (∀ q ∈ k_ncs, va_Nc q.1 q.2 U) ∧ va_AO RX0 U ∧ ∀ q ∈ k_decs, k_De q U
def k_Z (g : k_g) (U : State) (H : Heap) : Prop := vx_Zq Bundle.tN "UNASSIGNED_STACK" Bundle.steD (k_A g) U H ∧ vx_Zq Bundle.tN "SUPPRESSED_SENTINEL" Bundle.listD (k_A g) U H
def k_Wd (g : k_g) (G : k_G) (ad : k_AD) (H : Heap) : Prop := (∀ a b e, G a b = some e → va_at g.1 vwCl (ad a b, e) H ∧ g.2.2 ≤ ad a b) ∧ ∀ a b a' b' e e', G a b = some e → G a' b' = some e' → ad a b = ad a' b' → a = a' ∧ b = b'
def k_I (g : k_g) (G : k_G) (ad : k_AD) (U : State) : Prop := k_K g U ∧ k_Z g U U.heap ∧ g.2.2 ≤ U.heap.size ∧ k_Wd g G ad U.heap
theorem k_K.warm {g : k_g} {s U : State} (hw : s.WarmedH U.vm) (h : k_K g s) : k_K g U := by
  obtain ⟨h1, h2, h3, h4, h5, h6, h7, h8⟩ := h
  exact ⟨va_K.moved hw.alike h1, fun w hq => va_Nw.warmF hw (h2 w hq), fun w hq => va_Nw.warmM hw (h3 w hq), fun q hq => (h4 q hq).imp fun a ha => vk_R.warm hw ha, fun q hq => (h5 q hq).moved hw.alike, fun q hq => (h6 q hq).moved hw.alike, h7.moved hw.alike, fun q hq => (h8 q hq).moved hw.alike⟩
theorem k_Z.to {g : k_g} {s U : State} {H : Heap} {locs : List Loc} (hw : s.vm.Alike U.vm) (hS : va_S (k_A g) s.heap H locs) (h : k_Z g s s.heap) : k_Z g U H := ⟨vx_Zq.moved hw (h.1.kept hS.2.1), vx_Zq.moved hw (h.2.kept hS.2.1)⟩
theorem k_I.of {g : k_g} {G : k_G} {ad : k_AD} {s U : State} {H : Heap} {locs : List Loc} (hK : k_K g s) (hZ : k_Z g s s.heap) (hN : g.2.2 ≤ s.heap.size) (hS : va_S (k_A g) s.heap H locs) (hW : k_Wd g G ad H) (hU : U.heap = H) (hw : s.WarmedH U.vm) : k_I g G ad U :=
  ⟨hK.warm hw, by rw [hU]; exact hZ.to hw.alike hS, by rw [hU]; exact Nat.le_trans hN hS.1, by rw [hU]; exact hW⟩
theorem k_blind {g : k_g} {G : k_G} {ad : k_AD} {av : List Value} : FrameBlind (va_Pc av (k_I g G ad)) := fun a U fr mk h => ⟨h.1, k_K.warm (U := U.calling fr mk a) (State.WarmedH.refl U) h.2.1, k_Z.to (locs := []) (U := U.calling fr mk a) (Vm.Alike.refl U.vm) va_S.rf h.2.2.1, h.2.2.2.1, h.2.2.2.2⟩
def k_up (G : k_G) (a b : Nat) (e : va_E) : k_G := fun x y => if x = a ∧ y = b then some e else G x y
def k_ua (ad : k_AD) (a b q : Nat) : k_AD := fun x y => if x = a ∧ y = b then q else ad x y
theorem k_Wd.to {g : k_g} {G G' : k_G} {ad : k_AD} {H : Heap} (h : k_Wd g G ad H) (hG : ∀ a b e, G' a b = some e → G a b = some e) : k_Wd g G' ad H :=
  ⟨fun a b e he => h.1 a b e (hG a b e he), fun a b a' b' e e' h1 h2 => h.2 a b a' b' e e' (hG _ _ _ h1) (hG _ _ _ h2)⟩
theorem k_Wd.set {g : k_g} {G : k_G} {ad : k_AD} {H H1 : Heap} (hW : k_Wd g G ad H) {a b : Nat} {e e' : va_E} (hG : G a b = some e) (he : va_at g.1 vwCl (ad a b, e') H1) (oq : ∀ q, q ≠ ad a b → H1[q]? = H[q]?) : k_Wd g (k_up G a b e') ad H1 := by
  have key : ∀ x y z, k_up G a b e' x y = some z → ∃ z', G x y = some z' := by
    intro x y z hz
    by_cases h : x = a ∧ y = b
    · rw [h.1, h.2]; exact ⟨_, hG⟩
    · simp only [k_up, if_neg h] at hz; exact ⟨_, hz⟩
  refine ⟨fun x y z hz => ?_, fun x y x' y' z z' h1 h2 heq => ?_⟩
  · by_cases h : x = a ∧ y = b
    · simp only [k_up, if_pos h] at hz
      cases hz
      rw [h.1, h.2]
      exact ⟨he, (hW.1 _ _ _ hG).2⟩
    · simp only [k_up, if_neg h] at hz
      exact ⟨(hW.1 _ _ _ hz).1.kept (oq _ (fun q => h (hW.2 _ _ _ _ _ _ hz hG q))), (hW.1 _ _ _ hz).2⟩
  · obtain ⟨w, hw⟩ := key _ _ _ h1
    obtain ⟨w', hw'⟩ := key _ _ _ h2
    exact hW.2 _ _ _ _ _ _ hw hw' heq
theorem k_Wd.lt {g : k_g} {G : k_G} {ad : k_AD} {H : Heap} (hW : k_Wd g G ad H) {a b : Nat} {e : va_E} (hG : G a b = some e) : ad a b < H.size := (hW.1 _ _ _ hG).1.lt
theorem k_Wd.new {g : k_g} {G : k_G} {ad : k_AD} {H H1 : Heap} (hW : k_Wd g G ad H) {a b : Nat} {e : va_E} (hG : G a b = none) (hN : g.2.2 ≤ H.size) (he : va_at g.1 vwCl (H.size, e) H1) (oq : ∀ q, q < H.size → H1[q]? = H[q]?) : k_Wd g (k_up G a b e) (k_ua ad a b H.size) H1 := by
  have old : ∀ x y z, G x y = some z → ¬ (x = a ∧ y = b) := by
    intro x y z hz h
    rw [h.1, h.2, hG] at hz
    cases hz
  refine ⟨fun x y z hz => ?_, fun x y x' y' z z' h1 h2 heq => ?_⟩
  · by_cases h : x = a ∧ y = b
    · simp only [k_up, if_pos h] at hz
      cases hz
      simp only [k_ua, if_pos h]
      exact ⟨he, hN⟩
    · simp only [k_up, if_neg h] at hz
      simp only [k_ua, if_neg h]
      exact ⟨(hW.1 _ _ _ hz).1.kept (oq _ (hW.lt hz)), (hW.1 _ _ _ hz).2⟩
  · by_cases h : x = a ∧ y = b <;> by_cases h' : x' = a ∧ y' = b
    · exact ⟨h.1.trans h'.1.symm, h.2.trans h'.2.symm⟩
    · simp only [k_up, if_neg h'] at h2
      simp only [k_ua, if_pos h, if_neg h'] at heq
      exact absurd (hW.lt h2) (by omega)
    · simp only [k_up, if_neg h] at h1
      simp only [k_ua, if_pos h', if_neg h] at heq
      exact absurd (hW.lt h1) (by omega)
    · simp only [k_up, if_neg h] at h1
      simp only [k_up, if_neg h'] at h2
      simp only [k_ua, if_neg h, if_neg h'] at heq
      exact hW.2 _ _ _ _ _ _ h1 h2 heq
theorem k_Wd.grown {g : k_g} {G : k_G} {ad : k_AD} {H H1 : Heap} (hW : k_Wd g G ad H) (oq : ∀ q, q < H.size → H1[q]? = H[q]?) : k_Wd g G ad H1 := ⟨fun x y z hz => ⟨(hW.1 _ _ _ hz).1.kept (oq _ (hW.lt hz)), (hW.1 _ _ _ hz).2⟩, hW.2⟩
theorem k_S.new {g : k_g} {H0 H H1 : Heap} {locs : List Loc} (hS : va_S (k_A g) H0 H locs) (z : H1.size = H.size + 1) (oq : ∀ q, q < H.size → H1[q]? = H[q]?) : va_S (k_A g) H0 H1 locs := ⟨Nat.le_trans hS.1 (by omega), fun x h1 h2 => (oq x (Nat.lt_of_lt_of_le h1 hS.1)).trans (hS.2.1 x h1 h2), hS.2.2⟩
section KRows
variable {p : Program} {l : Launch} {e : Env} {R : Room} {s : State} {m : MethodId} {args : Array Value} {below : List Frame} {meth : Method} {c : Code} {H : Heap} {locs : List Loc} {cells slots : Nat} {Q : State → Prop}
variable {cc : ByteArray} {pc : Nat} {ls : Array Slot} {rest : List Value} {g : k_g} {G : k_G} {ad : k_AD} {H0 : Heap}
theorem k_one {a b : Nat} {x : va_E} (hW : k_Wd g G ad H) (hG : G a b = some x) : va_P g.1 vwCl [(ad a b, x)] H := fun k q h => by
  have hz : k < 1 := (List.getElem?_eq_some_iff.mp h).1
  rw [show k = 0 by omega] at h
  cases h
  exact (hW.1 _ _ _ hG).1
theorem k_get (hexec : p.tables.exec = Jvm.exec) (hb : c.code = cc) {own C : String} {T : u_T} {N ci index : Nat} {Ts : List Cond} (hts : ∀ w ∈ Ts, w.before args s = true) (hin : ∀ w ∈ u_ws C T N, w ∈ Ts) (hown : s.vm.findClass own = some m.cls) (hK : k_K g s) (hW : k_Wd g G ad H) {a b : Nat} {fs : List Value} (hG : G a b = some (.inr (ci, fs))) (hc : vwCl[ci]? = some (C, T, N)) (k : Nat) (hk : k < N) (hlink : (Cond.fieldLink own index C (T k).2.1 (T k).2.2.1).before args s = true) (hdecl : (T k).1 = C) {v : Value} (hv : fs[k]? = some v) (hdg : decode cc pc = .ok (.getfield index, 3))
    (kk : W p l e R s m args below meth c H locs cells slots Q (F0 m (pc + 3) ls (v :: rest))) : W p l e R s m args below meth c H locs cells slots Q (F0 m pc ls (.ref (ad a b) :: rest)) :=
  va_get hexec hb hts hin hown hK.1 (k_one hW hG) 0 rfl hc k hk hlink (fun _ h => by rw [hdecl] at h; exact h) hv hdg kk
theorem k_getN (hexec : p.tables.exec = Jvm.exec) (hb : c.code = cc) {own C host : String} {T : u_T} {N ci index : Nat} {Ts : List Cond} (hts : ∀ w ∈ Ts, w.before args s = true) (hin : ∀ w ∈ u_ws C T N, w ∈ Ts) (hown : s.vm.findClass own = some m.cls) (hK : k_K g s) (hW : k_Wd g G ad H) {a b : Nat} {fs : List Value} (hG : G a b = some (.inr (ci, fs))) (hc : vwCl[ci]? = some (C, T, N)) (k : Nat) (hk : k < N) (hlink : (own, index, C, (T k).2.1, (T k).2.2.1, host) ∈ k_nestF) (hdecl : (T k).1 = C) {v : Value} (hv : fs[k]? = some v) (hdg : decode cc pc = .ok (.getfield index, 3))
    (kk : W p l e R s m args below meth c H locs cells slots Q (F0 m (pc + 3) ls (v :: rest))) : W p l e R s m args below meth c H locs cells slots Q (F0 m pc ls (.ref (ad a b) :: rest)) :=
  va_getN hexec hb hts hin hown hK.1 (k_one hW hG) 0 rfl hc k hk (va_Nw.use rfl (hK.2.1 _ hlink)) (fun _ h => by rw [hdecl] at h; exact h) hv hdg kk
theorem k_put (hexec : p.tables.exec = Jvm.exec) (hb : c.code = cc) {own C : String} {T : u_T} {N ci index : Nat} {Ts : List Cond} (hts : ∀ w ∈ Ts, w.before args s = true) (hin : ∀ w ∈ u_ws C T N, w ∈ Ts) (ty0 : Nat → FieldType) (hty : ∀ k, k < N → parseFieldDescriptor (T k).2.2.1 = some (ty0 k)) (hnm : ∀ a, a < N → ∀ b, b < N → a ≠ b → (T a).2.1 ≠ (T b).2.1) (hown : s.vm.findClass own = some m.cls) (hK : k_K g s) (hW : k_Wd g G ad H) (hS0 : va_S (k_A g) H0 H locs) {a b : Nat} {fs : List Value} (hG : G a b = some (.inr (ci, fs))) (hc : vwCl[ci]? = some (C, T, N)) (k : Nat) (hk : k < N) (hlink : (Cond.fieldLink own index C (T k).2.1 (T k).2.2.1).before args s = true) (hdecl : (T k).1 = C) (hfin : (T k).2.2.2 = false) {ty : FieldType} {v : Value} (hd : parseFieldDescriptor (T k).2.2.1 = some ty) (hn : narrow ty v = v) (hfit : fits ty v = true) (hl : k < fs.length)
    (hdg : decode cc pc = .ok (.putfield index, 3)) (kk : ∀ (H1 : Heap) (locs1 : List Loc), k_Wd g (k_up G a b (.inr (ci, fs.set k v))) ad H1 → va_S (k_A g) H0 H1 locs1 → W p l e R s m args below meth c H1 locs1 cells slots Q (F0 m (pc + 3) ls rest)) : W p l e R s m args below meth c H locs cells slots Q (F0 m pc ls (v :: .ref (ad a b) :: rest)) := by
  have hap := va_apart (own := own) hts hin ty0 hty hnm hK.1 hc
  obtain ⟨⟨r, h1, cell, q1, q2, q3, q4⟩, hNa⟩ := hW.1 _ _ _ hG
  have hr : r = (C, T, N) := Option.some.inj (h1.symm.trans hc)
  subst hr
  obtain ⟨hSl, hfc, kC, hkC, hkind⟩ := hK.1.1 ci _ hc
  obtain ⟨cf, kf, fi, f, hi, hsl⟩ := hSl k hk
  have hlay := hts _ (hin _ (u_in_lay hk))
  unfold u_lay at hlay
  rw [if_neg (by rw [hfin]; decide)] at hlay
  have hst := (u_facts hfc hkC (u_lays hts hin hk) hi).1
  have h6 := u_store hfc hkC hkind hlay hi hd hn hfit
  refine W.putK hexec hb (f := f) ⟨hown, hlink, ⟨_, _, _, by rw [hdecl] at hi; exact hi⟩, hst⟩ (by rw [q2]; exact h6) q1 q3 (by rw [hsl]; exact k2_hasslot (q4 k hk)) rfl rfl hdg fun H' e1 e2 e3 => ?_
  rw [hsl] at e1 ⊢
  exact kk H' _ (hW.set hG ⟨_, hc, t_OB.to (V := updV (vp_V fs) k v) ⟨_, e1, q2, q3, t_set q4 hap hk v⟩ (fun j _ => vp_updV_set hl v j)⟩ e3) (hS0.put e2 e3 hNa)
theorem k_putN (hexec : p.tables.exec = Jvm.exec) (hb : c.code = cc) {own C host : String} {T : u_T} {N ci index : Nat} {Ts : List Cond} (hts : ∀ w ∈ Ts, w.before args s = true) (hin : ∀ w ∈ u_ws C T N, w ∈ Ts) (ty0 : Nat → FieldType) (hty : ∀ k, k < N → parseFieldDescriptor (T k).2.2.1 = some (ty0 k)) (hnm : ∀ a, a < N → ∀ b, b < N → a ≠ b → (T a).2.1 ≠ (T b).2.1) (hown : s.vm.findClass own = some m.cls) (hK : k_K g s) (hW : k_Wd g G ad H) (hS0 : va_S (k_A g) H0 H locs) {a b : Nat} {fs : List Value} (hG : G a b = some (.inr (ci, fs))) (hc : vwCl[ci]? = some (C, T, N)) (k : Nat) (hk : k < N) (hlink : (own, index, C, (T k).2.1, (T k).2.2.1, host) ∈ k_nestF) (hdecl : (T k).1 = C) (hfin : (T k).2.2.2 = false) {ty : FieldType} {v : Value} (hd : parseFieldDescriptor (T k).2.2.1 = some ty) (hn : narrow ty v = v) (hfit : fits ty v = true) (hl : k < fs.length)
    (hdg : decode cc pc = .ok (.putfield index, 3)) (kk : ∀ (H1 : Heap) (locs1 : List Loc), k_Wd g (k_up G a b (.inr (ci, fs.set k v))) ad H1 → va_S (k_A g) H0 H1 locs1 → W p l e R s m args below meth c H1 locs1 cells slots Q (F0 m (pc + 3) ls rest)) : W p l e R s m args below meth c H locs cells slots Q (F0 m pc ls (v :: .ref (ad a b) :: rest)) := by
  have hap := va_apart (own := own) hts hin ty0 hty hnm hK.1 hc
  obtain ⟨⟨r, h1, cell, q1, q2, q3, q4⟩, hNa⟩ := hW.1 _ _ _ hG
  have hr : r = (C, T, N) := Option.some.inj (h1.symm.trans hc)
  subst hr
  obtain ⟨hSl, hfc, kC, hkC, hkind⟩ := hK.1.1 ci _ hc
  obtain ⟨cf, kf, fi, f, hi, hsl⟩ := hSl k hk
  have hlay := hts _ (hin _ (u_in_lay hk))
  unfold u_lay at hlay
  rw [if_neg (by rw [hfin]; decide)] at hlay
  have hst := (u_facts hfc hkC (u_lays hts hin hk) hi).1
  have h6 := u_store hfc hkC hkind hlay hi hd hn hfit
  refine va_WputK hexec hb (f := f) hown (va_Nw.use (A := args) rfl (hK.2.1 _ hlink)) (by rw [hdecl] at hi; exact hi) hst (by rw [q2]; exact h6) q1 q3 (by rw [hsl]; exact k2_hasslot (q4 k hk)) rfl rfl hdg fun H' e1 e2 e3 => ?_
  rw [hsl] at e1 ⊢
  exact kk H' _ (hW.set hG ⟨_, hc, t_OB.to (V := updV (vp_V fs) k v) ⟨_, e1, q2, q3, t_set q4 hap hk v⟩ (fun j _ => vp_updV_set hl v j)⟩ e3) (hS0.put e2 e3 hNa)
theorem k_putF (hexec : p.tables.exec = Jvm.exec) (hb : c.code = cc) {C : String} {T : u_T} {N ci index : Nat} {Ts : List Cond} (hts : ∀ w ∈ Ts, w.before args s = true) (hin : ∀ w ∈ u_ws C T N, w ∈ Ts) (ty0 : Nat → FieldType) (hty : ∀ k, k < N → parseFieldDescriptor (T k).2.2.1 = some (ty0 k)) (hnm : ∀ a, a < N → ∀ b, b < N → a ≠ b → (T a).2.1 ≠ (T b).2.1) (hown : s.vm.findClass C = some m.cls) (hK : k_K g s) (hW : k_Wd g G ad H) (hS0 : va_S (k_A g) H0 H locs) {a b : Nat} {fs : List Value} (hG : G a b = some (.inr (ci, fs))) (hc : vwCl[ci]? = some (C, T, N)) (k : Nat) (hk : k < N) (hlink : (Cond.fieldLink C index C (T k).2.1 (T k).2.2.1).before args s = true) (hdecl : (T k).1 = C) (hfin : (T k).2.2.2 = true) (hin2 : meth.name = "<init>") {ty : FieldType} {v : Value} (hd : parseFieldDescriptor (T k).2.2.1 = some ty) (hn : narrow ty v = v) (hfit : fits ty v = true) (hl : k < fs.length)
    (hdg : decode cc pc = .ok (.putfield index, 3)) (kk : ∀ (H1 : Heap) (locs1 : List Loc), k_Wd g (k_up G a b (.inr (ci, fs.set k v))) ad H1 → va_S (k_A g) H0 H1 locs1 → W p l e R s m args below meth c H1 locs1 cells slots Q (F0 m (pc + 3) ls rest)) : W p l e R s m args below meth c H locs cells slots Q (F0 m pc ls (v :: .ref (ad a b) :: rest)) := by
  have hap := va_apart (own := C) hts hin ty0 hty hnm hK.1 hc
  obtain ⟨⟨r, h1, cell, q1, q2, q3, q4⟩, hNa⟩ := hW.1 _ _ _ hG
  have hr : r = (C, T, N) := Option.some.inj (h1.symm.trans hc)
  subst hr
  obtain ⟨hSl, hfc, kC, hkC, hkind⟩ := hK.1.1 ci _ hc
  obtain ⟨cf, kf, fi, f, hi, hsl⟩ := hSl k hk
  have hlay := hts _ (hin _ (u_in_lay hk))
  unfold u_lay at hlay
  rw [if_pos hfin] at hlay
  have hst := (u_facts hfc hkC (u_lays hts hin hk) hi).1
  have hcf : m.cls = cf := by
    obtain ⟨_, _, c', _, _, _, -, -, hf', -, -, -, hown2, -⟩ := Cond.laysFinal_spec hlay
    have e1 : c' = cf := by have := hi.symm.trans hf'; simp at this; exact this.1.symm
    rw [hdecl] at hown2
    rw [← e1]; exact Option.some.inj (hown.symm.trans hown2)
  have h6 := u_fits hfc hkC hkind (Or.inr hlay) hi hd hn hfit
  refine W.putFinK hexec hb hown hlink (by rw [hdecl] at hi; exact hi) hst hcf hin2 (by rw [q2]; exact h6) q1 q3 (by rw [hsl]; exact k2_hasslot (q4 k hk)) rfl rfl hdg fun H' e1 e2 e3 => ?_
  rw [hsl] at e1 ⊢
  exact kk H' _ (hW.set hG ⟨_, hc, t_OB.to (V := updV (vp_V fs) k v) ⟨_, e1, q2, q3, t_set q4 hap hk v⟩ (fun j _ => vp_updV_set hl v j)⟩ e3) (hS0.put e2 e3 hNa)
theorem k_iald (hexec : p.tables.exec = Jvm.exec) (hb : c.code = cc) (hK : k_K g s) (hW : k_Wd g G ad H) {a b n : Nat} {f : Nat → Int32} (hG : G a b = some (.inl (g.2.1 0, n, .inl f))) {i : Int32} (j : Nat) (hi : i = nI j) (hj : j < n) (hn : n < 2 ^ 31) (hdg : decode cc pc = .ok (.iaload, 1))
    (kk : W p l e R s m args below meth c H locs cells slots Q (F0 m (pc + 1) ls (.int (f j) :: rest))) : W p l e R s m args below meth c H locs cells slots Q (F0 m pc ls (.int i :: .ref (ad a b) :: rest)) := by
  subst hi
  refine va_iald hexec hb hK.1 (k_one hW hG) 0 0 rfl rfl (vp_in_nI hj hn) hdg ?_
  rw [nI_clamp (Nat.lt_trans hj hn)]; exact kk
theorem k_zald (hexec : p.tables.exec = Jvm.exec) (hb : c.code = cc) (hK : k_K g s) (hW : k_Wd g G ad H) {a b n : Nat} {f : Nat → Int32} (hG : G a b = some (.inl (g.2.1 1, n, .inl f))) {i : Int32} (j : Nat) (hi : i = nI j) (hj : j < n) (hn : n < 2 ^ 31) (hdg : decode cc pc = .ok (.baload, 1))
    (kk : W p l e R s m args below meth c H locs cells slots Q (F0 m (pc + 1) ls (.int (f j) :: rest))) : W p l e R s m args below meth c H locs cells slots Q (F0 m pc ls (.int i :: .ref (ad a b) :: rest)) := by
  subst hi
  refine va_zald hexec hb hK.1 (k_one hW hG) 0 1 rfl rfl (vp_in_nI hj hn) hdg ?_
  rw [nI_clamp (Nat.lt_trans hj hn)]; exact kk
theorem k_lald (hexec : p.tables.exec = Jvm.exec) (hb : c.code = cc) (hK : k_K g s) (hW : k_Wd g G ad H) {a b n : Nat} {f : Nat → Int64} (hG : G a b = some (.inl (g.2.1 2, n, .inr (.inl f)))) {i : Int32} (j : Nat) (hi : i = nI j) (hj : j < n) (hn : n < 2 ^ 31) (hdg : decode cc pc = .ok (.laload, 1))
    (kk : W p l e R s m args below meth c H locs cells slots Q (F0 m (pc + 1) ls (.long (f j) :: rest))) : W p l e R s m args below meth c H locs cells slots Q (F0 m pc ls (.int i :: .ref (ad a b) :: rest)) := by
  subst hi
  refine va_lald hexec hb hK.1 (k_one hW hG) 0 2 rfl rfl (vp_in_nI hj hn) hdg ?_
  rw [nI_clamp (Nat.lt_trans hj hn)]; exact kk
theorem k_aald (hexec : p.tables.exec = Jvm.exec) (hb : c.code = cc) (hK : k_K g s) (hW : k_Wd g G ad H) {a b n : Nat} {f : Nat → Option Nat} (hG : G a b = some (.inl (g.2.1 3, n, .inr (.inr (.inr (.inr f)))))) {i : Int32} (j : Nat) (hi : i = nI j) (hj : j < n) (hn : n < 2 ^ 31) (hdg : decode cc pc = .ok (.aaload, 1))
    (kk : W p l e R s m args below meth c H locs cells slots Q (F0 m (pc + 1) ls (va_rf (f j) :: rest))) : W p l e R s m args below meth c H locs cells slots Q (F0 m pc ls (.int i :: .ref (ad a b) :: rest)) := by
  subst hi
  refine va_aldq (C := RX0) hexec hb hK.1 (k_one hW hG) 0 3 rfl rfl (vp_in_nI hj hn) hdg ?_
  rw [nI_clamp (Nat.lt_trans hj hn)]; exact kk
theorem k_alen (hexec : p.tables.exec = Jvm.exec) (hb : c.code = cc) (hK : k_K g s) (hW : k_Wd g G ad H) {a b : Nat} {x : vp_A} (q : Nat) {ty : FieldType} (hq : (k_tys g)[q]? = some (g.2.1 q, ty)) (hG : G a b = some (.inl (g.2.1 q, x))) {v : Int32} (hv : Int32.ofNat x.1 = v) (hdg : decode cc pc = .ok (.arraylength, 1))
    (kk : W p l e R s m args below meth c H locs cells slots Q (F0 m (pc + 1) ls (.int v :: rest))) : W p l e R s m args below meth c H locs cells slots Q (F0 m pc ls (.ref (ad a b) :: rest)) :=
  va_alen hexec hb hK.1 (k_one hW hG) 0 q rfl hq hv hdg kk
theorem k_iast (hexec : p.tables.exec = Jvm.exec) (hb : c.code = cc) (hK : k_K g s) (hW : k_Wd g G ad H) (hS : va_S (k_A g) H0 H locs) {a b n : Nat} {f : Nat → Int32} (hG : G a b = some (.inl (g.2.1 0, n, .inl f))) {i x : Int32} (j : Nat) (hi : i = nI j) (hj : j < n) (hn : n < 2 ^ 31) (hdg : decode cc pc = .ok (.iastore, 1))
    (kk : ∀ (H1 : Heap) (locs1 : List Loc), k_Wd g (k_up G a b (.inl (g.2.1 0, n, .inl (upd f j x)))) ad H1 → va_S (k_A g) H0 H1 locs1 → W p l e R s m args below meth c H1 locs1 cells slots Q (F0 m (pc + 1) ls rest)) : W p l e R s m args below meth c H locs cells slots Q (F0 m pc ls (.int x :: .int i :: .ref (ad a b) :: rest)) := by
  subst hi
  have hc := nI_clamp (Nat.lt_trans hj hn)
  obtain ⟨h1, hNa⟩ := hW.1 _ _ _ hG
  have hp1 : vp_in (nI j) n := vp_in_nI hj hn
  refine W.iast hexec hb h1 ((hK.1.2 0 _ rfl).1 n (fun j => .int (f j))) (fun q => by cases q) (by show ¬ (nI j < 0 ∨ (arrV _ _ _).slots.size ≤ _); rw [arrV_size]; exact hp1) rfl rfl hdg fun H1 e z oq => ?_
  refine kk H1 _ (hW.set hG ?_ oq) (hS.put z oq hNa)
  show H1[ad a b]? = some (vp_cell _ _)
  rw [e, hc]
  rw [vp_cell_i, vp_cell_i, arrV_store]
  congr 2
  funext q
  by_cases hq : q = j
  · subst hq; simp [updV, upd]
  · simp [updV, upd, hq]
theorem k_zast (hexec : p.tables.exec = Jvm.exec) (hb : c.code = cc) (hK : k_K g s) (hW : k_Wd g G ad H) (hS : va_S (k_A g) H0 H locs) {a b n : Nat} {f : Nat → Int32} (hG : G a b = some (.inl (g.2.1 1, n, .inl f))) {i x : Int32} (hx : narrow .boolean (.int x) = .int x) (j : Nat) (hi : i = nI j) (hj : j < n) (hn : n < 2 ^ 31) (hdg : decode cc pc = .ok (.bastore, 1))
    (kk : ∀ (H1 : Heap) (locs1 : List Loc), k_Wd g (k_up G a b (.inl (g.2.1 1, n, .inl (upd f j x)))) ad H1 → va_S (k_A g) H0 H1 locs1 → W p l e R s m args below meth c H1 locs1 cells slots Q (F0 m (pc + 1) ls rest)) : W p l e R s m args below meth c H locs cells slots Q (F0 m pc ls (.int x :: .int i :: .ref (ad a b) :: rest)) := by
  subst hi
  have hc := nI_clamp (Nat.lt_trans hj hn)
  obtain ⟨h1, hNa⟩ := hW.1 _ _ _ hG
  have hp1 : vp_in (nI j) n := vp_in_nI hj hn
  refine W.zast hexec hb h1 ((hK.1.2 1 _ rfl).1 n (fun j => .int (f j))) (fun q => by cases q) (by show ¬ (nI j < 0 ∨ (arrV _ _ _).slots.size ≤ _); rw [arrV_size]; exact hp1) rfl rfl hdg fun H1 e z oq => ?_
  refine kk H1 _ (hW.set hG ?_ oq) (hS.put z oq hNa)
  show H1[ad a b]? = some (vp_cell _ _)
  rw [e, hc, hx]
  rw [vp_cell_i, vp_cell_i, arrV_store]
  congr 2
  funext q
  by_cases hq : q = j
  · subst hq; simp [updV, upd]
  · simp [updV, upd, hq]
theorem k_last (hexec : p.tables.exec = Jvm.exec) (hb : c.code = cc) (hK : k_K g s) (hW : k_Wd g G ad H) (hS : va_S (k_A g) H0 H locs) {a b n : Nat} {f : Nat → Int64} (hG : G a b = some (.inl (g.2.1 2, n, .inr (.inl f)))) {i : Int32} {x : Int64} (j : Nat) (hi : i = nI j) (hj : j < n) (hn : n < 2 ^ 31) (hdg : decode cc pc = .ok (.lastore, 1))
    (kk : ∀ (H1 : Heap) (locs1 : List Loc), k_Wd g (k_up G a b (.inl (g.2.1 2, n, .inr (.inl (va_up f j x))))) ad H1 → va_S (k_A g) H0 H1 locs1 → W p l e R s m args below meth c H1 locs1 cells slots Q (F0 m (pc + 1) ls rest)) : W p l e R s m args below meth c H locs cells slots Q (F0 m pc ls (.long x :: .int i :: .ref (ad a b) :: rest)) := by
  subst hi
  have hc := nI_clamp (Nat.lt_trans hj hn)
  obtain ⟨h1, hNa⟩ := hW.1 _ _ _ hG
  have hp1 : vp_in (nI j) n := vp_in_nI hj hn
  refine W.last hexec hb h1 ((hK.1.2 2 _ rfl).1 n (fun j => .long (f j))) (fun q => by cases q) (by show ¬ (nI j < 0 ∨ (arrV _ _ _).slots.size ≤ _); rw [arrV_size]; exact hp1) rfl rfl hdg fun H1 e z oq => ?_
  refine kk H1 _ (hW.set hG ?_ oq) (hS.put z oq hNa)
  show H1[ad a b]? = some (vp_cell _ _)
  rw [e, hc]
  rw [vp_cell_l, vp_cell_l, arrV_store]
  congr 2
  funext q
  by_cases hq : q = j
  · subst hq; simp [updV, va_up]
  · simp [updV, va_up, hq]
theorem k_aast (hexec : p.tables.exec = Jvm.exec) (hb : c.code = cc) (hK : k_K g s) (hW : k_Wd g G ad H) (hS : va_S (k_A g) H0 H locs) {a b n a2 b2 : Nat} {f : Nat → Option Nat} (hG : G a b = some (.inl (g.2.1 3, n, .inr (.inr (.inr (.inr f)))))) {fs : List Value} (hG2 : G a2 b2 = some (.inr (0, fs))) {i : Int32} (j : Nat) (hi : i = nI j) (hj : j < n) (hn : n < 2 ^ 31) (hdg : decode cc pc = .ok (.aastore, 1))
    (kk : ∀ (H1 : Heap) (locs1 : List Loc), k_Wd g (k_up G a b (.inl (g.2.1 3, n, .inr (.inr (.inr (.inr (va_up f j (some (ad a2 b2)))))))) ) ad H1 → va_S (k_A g) H0 H1 locs1 → W p l e R s m args below meth c H1 locs1 cells slots Q (F0 m (pc + 1) ls rest)) : W p l e R s m args below meth c H locs cells slots Q (F0 m pc ls (.ref (ad a2 b2) :: .int i :: .ref (ad a b) :: rest)) := by
  subst hi
  have hc := nI_clamp (Nat.lt_trans hj hn)
  obtain ⟨h1, hNa⟩ := hW.1 _ _ _ hG
  obtain ⟨⟨r', hr', cellV, g1, g2, g3, -⟩, -⟩ := hW.1 _ _ _ hG2
  have hcls := (hK.1.1 0 (RX0, TX0, 11) rfl).2
  obtain ⟨kA, comp, k1, k2, k3, -⟩ := (hK.1.2 3 _ rfl).2
  have hcomp : comp = g.1.1 0 := Option.some.inj (k3.symm.trans hcls.1)
  subst hcomp
  obtain ⟨kC, hkC, -⟩ := id hcls.2
  have hp1 : vp_in (nI j) n := vp_in_nI hj hn
  refine W.aast hexec hb h1 (fun q h => by cases h) (fun h => by cases h) k1 k2 rfl hkC ⟨fun q => hp1 (Or.inl q), by show _ < (arrV _ _ _).slots.size; rw [arrV_size, hc]; exact hj⟩ g1 (fun q h => by rw [g3] at h; cases h) (by rw [g2]; exact hkC) (by rw [g2]; exact va_assign hcls) rfl rfl hdg fun H1 e z oq => ?_
  refine kk H1 _ (hW.set hG ?_ oq) (hS.put z oq hNa)
  show H1[ad a b]? = some (vp_cell _ _)
  rw [e, hc]
  rw [vp_cell_q, vp_cell_q, arrV_store]
  congr 2
  funext q
  by_cases hq : q = j
  · subst hq; simp [updV, va_up, va_rf]
  · simp [updV, va_up, hq]
theorem k_aastN (hexec : p.tables.exec = Jvm.exec) (hb : c.code = cc) (hK : k_K g s) (hW : k_Wd g G ad H) (hS : va_S (k_A g) H0 H locs) {a b n : Nat} {f : Nat → Option Nat} (hG : G a b = some (.inl (g.2.1 3, n, .inr (.inr (.inr (.inr f)))))) {i : Int32} (j : Nat) (hi : i = nI j) (hj : j < n) (hn : n < 2 ^ 31) (hdg : decode cc pc = .ok (.aastore, 1))
    (kk : ∀ (H1 : Heap) (locs1 : List Loc), k_Wd g (k_up G a b (.inl (g.2.1 3, n, .inr (.inr (.inr (.inr (va_up f j none))))))) ad H1 → va_S (k_A g) H0 H1 locs1 → W p l e R s m args below meth c H1 locs1 cells slots Q (F0 m (pc + 1) ls rest)) : W p l e R s m args below meth c H locs cells slots Q (F0 m pc ls (.null :: .int i :: .ref (ad a b) :: rest)) := by
  subst hi
  have hc := nI_clamp (Nat.lt_trans hj hn)
  obtain ⟨h1, hNa⟩ := hW.1 _ _ _ hG
  have hp1 : vp_in (nI j) n := vp_in_nI hj hn
  refine va_WaastN (C := RX0) hexec hb h1 ((hK.1.2 3 _ rfl).1 n (fun j => va_rf (f j))) (fun h => by cases h) (by show ¬ (nI j < 0 ∨ (arrV _ _ _).slots.size ≤ _); rw [arrV_size]; exact hp1) rfl rfl hdg fun H1 e z oq => ?_
  refine kk H1 _ (hW.set hG ?_ oq) (hS.put z oq hNa)
  show H1[ad a b]? = some (vp_cell _ _)
  rw [e, hc]
  rw [vp_cell_q, vp_cell_q, arrV_store]
  congr 2
  funext q
  by_cases hq : q = j
  · subst hq; simp [updV, va_up, va_rf]
  · simp [updV, va_up, hq]
theorem k_new (hexec : p.tables.exec = Jvm.exec) (hb : c.code = cc) {own C : String} {T : u_T} {N ci index : Nat} {Ts : List Cond} (hts : ∀ w ∈ Ts, w.before args s = true) (hin : ∀ w ∈ u_ws C T N, w ∈ Ts) (ty : Nat → FieldType) (hty : ∀ k, k < N → parseFieldDescriptor (T k).2.2.1 = some (ty k)) (hown : s.vm.findClass own = some m.cls) (hcl : (Cond.classLink own index C).before args s = true) (hinst : (Cond.instantiable C N).before args s = true) (hini : (Cond.initialized C).before args s = true)
    (hK : k_K g s) (hN : g.2.2 ≤ s.heap.size) (hW : k_Wd g G ad H) (hS : va_S (k_A g) s.heap H locs) (a b : Nat) (hG : G a b = none) (hc : vwCl[ci]? = some (C, T, N)) {fs : List Value} (hfs : ∀ j, j < N → defaultValue (ty j) = vp_V fs j) (hcells : cells + 1 ≤ R.cells) (hslots : slots + N ≤ R.slots) (hdg : decode cc pc = .ok (.new index, 3))
    (kk : ∀ (q : Nat) (H1 : Heap), k_Wd g (k_up G a b (.inr (ci, fs))) (k_ua ad a b q) H1 → va_S (k_A g) s.heap H1 locs →
      W p l e R s m args below meth c H1 locs (cells + 1) (slots + N) Q (F0 m (pc + 3) ls (.ref q :: rest))) : W p l e R s m args below meth c H locs cells slots Q (F0 m pc ls rest) := by
  have hKn := hK.1.1 ci _ hc
  refine W.newcK hexec hb hown hcl hinst hini rfl hdg hcells hslots hKn.2.1 rfl fun H1 kC hkC e1 z1 o1 => ?_
  exact kk H.size H1 (hW.new hG (Nat.le_trans hN hS.1) ⟨_, hc, (u_born ty hts hin hKn hkC e1 hty).to hfs⟩ o1) (k_S.new hS z1 o1)
theorem k_newa (hexec : p.tables.exec = Jvm.exec) (hb : c.code = cc) {atype : ArrayType} (t : Nat) {ty : FieldType} (hty : newarray.typeOf atype = ty) (ht : (k_tys g)[t]? = some (g.2.1 t, ty)) (hobj : ∀ C, ty ≠ .object C) (harr : (Cond.arrayClass ty).before args s = true)
    (hK : k_K g s) (hN : g.2.2 ≤ s.heap.size) (hW : k_Wd g G ad H) (hS : va_S (k_A g) s.heap H locs) (a b : Nat) (hG : G a b = none)
    {n : Int32} (N' : Nat) {x : (Nat → Int32) ⊕ (Nat → Int64) ⊕ (Nat → UInt32) ⊕ (Nat → UInt64) ⊕ (Nat → Option Nat)} (ha : ∀ cA : ClassId, vp_cell cA (N', x) = arrV cA N' (fun _ => defaultValue ty)) (hn : n = nI N') (hN2 : N' < 2 ^ 26) (hcells : cells + 1 ≤ R.cells) (hslots : slots + N' ≤ R.slots) (hby : N' * componentBytes ty ≤ 536870912) (hdg : decode cc pc = .ok (.newarray atype, 2))
    (kk : ∀ (q : Nat) (H1 : Heap), k_Wd g (k_up G a b (.inl (g.2.1 t, N', x))) (k_ua ad a b q) H1 → va_S (k_A g) s.heap H1 locs →
      W p l e R s m args below meth c H1 locs (cells + 1) (slots + N') Q (F0 m (pc + 2) ls (.ref q :: rest))) : W p l e R s m args below meth c H locs cells slots Q (F0 m pc ls (.int n :: rest)) := by
  subst hty
  subst hn
  have hlt : N' < 2 ^ 31 := Nat.lt_trans hN2 (by decide)
  refine va_newaK hexec hb harr rfl hdg rfl (nI_pos hlt) (nI_clamp hlt) hby hcells hslots rfl fun H1 cA e1 z1 o1 hAr hNm => ?_
  have hcA : cA = g.2.1 t := by
    have h9 := (hK.1.2 t _ ht).2
    have h8 : s.vm.findClass ("[" ++ (newarray.typeOf atype).toString) = some (g.2.1 t) := by
      generalize newarray.typeOf atype = ty9 at h9 hobj
      cases ty9 with
      | object C => exact absurd rfl (hobj C)
      | _ => exact h9
    exact Option.some.inj (hNm.symm.trans h8)
  subst hcA
  refine kk H.size H1 (hW.new hG (Nat.le_trans hN hS.1) ?_ o1) (k_S.new hS z1 o1)
  show H1[H.size]? = some (vp_cell _ _)
  rw [ha]; exact e1
theorem k_newq (hexec : p.tables.exec = Jvm.exec) (hb : c.code = cc) {own : String} {index : Nat} (hown : s.vm.findClass own = some m.cls) (hclink : (Cond.classLink own index RX0).before args s = true)
    (hK : k_K g s) (hN : g.2.2 ≤ s.heap.size) (hW : k_Wd g G ad H) (hS : va_S (k_A g) s.heap H locs) (a b : Nat) (hG : G a b = none)
    {n : Int32} (N' : Nat) (hn : n = nI N') (hN2 : N' < 2 ^ 26) (hcells : cells + 1 ≤ R.cells) (hslots : slots + N' ≤ R.slots) (hdg : decode cc pc = .ok (.anewarray index, 3))
    (kk : ∀ (q : Nat) (H1 : Heap), k_Wd g (k_up G a b (.inl (g.2.1 3, N', .inr (.inr (.inr (.inr (fun _ => none))))))) (k_ua ad a b q) H1 → va_S (k_A g) s.heap H1 locs →
      W p l e R s m args below meth c H1 locs (cells + 1) (slots + N') Q (F0 m (pc + 3) ls (.ref q :: rest))) : W p l e R s m args below meth c H locs cells slots Q (F0 m pc ls (.int n :: rest)) := by
  subst hn
  have hlt : N' < 2 ^ 31 := Nat.lt_trans hN2 (by decide)
  have hc := nI_clamp hlt
  refine W.anew hexec hb hown hclink (va_AO.use hK.2.2.2.2.2.2.1) rfl hdg rfl (nI_pos hlt) (by rw [hc]; omega) hcells (by rw [hc]; exact hslots) fun cA kA comp f1 f2 f3 f4 => ?_
  rw [hc]
  have hcA : cA = g.2.1 3 := by
    obtain ⟨_, _, _, _, _, h9⟩ := (hK.1.2 3 _ rfl).2
    exact Option.some.inj (f1.symm.trans h9)
  subst hcA
  generalize hH1 : H.push ({ cls := g.2.1 3, slots := Array.replicate N' .null, vm := .none } : Cell) = H1
  have z1 : H1.size = H.size + 1 := by rw [← hH1, Array.size_push]
  have e1 : H1[H.size]? = some (arrV (g.2.1 3) N' (fun _ => .null)) := by rw [← hH1, Array.getElem?_push_size, ← arrV_new]
  have o1 : ∀ q : Nat, q < H.size → H1[q]? = H[q]? := fun q hq => by rw [← hH1, Array.getElem?_push, if_neg (Nat.ne_of_lt hq)]
  refine kk H.size H1 (hW.new hG (Nat.le_trans hN hS.1) ?_ o1) (k_S.new hS z1 o1)
  show H1[H.size]? = some (vp_cell _ _)
  rw [vp_cell_q]; exact e1
theorem k_recv {a b ci : Nat} {fs : List Value} {q : vw_C} (hK : k_K g s) (hW : k_Wd g G ad H) (hG : G a b = some (.inr (ci, fs))) (hc : vwCl[ci]? = some q) : ∃ cell : Cell, H[ad a b]? = some cell ∧ cell.vm.isStatics = false ∧ s.vm.findClass q.1 = some cell.cls := va_recv hK.1 (k_one hW hG) (q0 := 0) hc rfl
end KRows
end
section
abbrev k_TF : Type := (Nat → Int32) × (Nat → Nat) × (Nat → Int32) × (Nat) × (Nat)
abbrev k_TS : Type := (Nat → Bool) × (Nat) × (Nat) × (Nat) × (Nat) × (Nat → Nat)
abbrev k_TO : Type := (Nat) × (Nat → Nat) × (Nat → Option Nat) × (Nat → Nat) × (Nat → Nat → Int32) × (Nat → Nat) × (Nat → Bool) × (Nat → Bool) × (Nat → Bool) × (Nat → Bool) × (Nat → Bool)
abbrev k_TM : Type := (Nat → Int32) × (Nat → Nat) × (Nat) × (Nat) × (Nat → Nat) × (Nat → Option Nat) × (Nat → Nat) × (Nat → Nat) × (Nat → Int32)
abbrev k_TN : Type := (Nat → Bool) × (Nat → Bool) × (Nat → Bool) × (Nat) × (Nat) × (Nat) × (Nat) × (Nat → Bool) × (Nat → Bool) × (Nat → Bool) × (Nat → Nat) × (Nat)
abbrev k_TZ : Type := (Nat → Int64)
abbrev k_T : Type := k_TF × k_TS × k_TO × k_TM × k_TN × k_TZ
abbrev f_c (t : k_T) : Nat → Int32 := t.1.1
abbrev set_f_c (t : k_T) (v : Nat → Int32) : k_T := ((v, t.1.2.1, t.1.2.2.1, t.1.2.2.2.1, t.1.2.2.2.2), t.2.1, t.2.2.1, t.2.2.2.1, t.2.2.2.2.1, t.2.2.2.2.2)
abbrev f_lf (t : k_T) : Nat → Nat := t.1.2.1
abbrev set_f_lf (t : k_T) (v : Nat → Nat) : k_T := ((t.1.1, v, t.1.2.2.1, t.1.2.2.2.1, t.1.2.2.2.2), t.2.1, t.2.2.1, t.2.2.2.1, t.2.2.2.2.1, t.2.2.2.2.2)
abbrev f_lt (t : k_T) : Nat → Int32 := t.1.2.2.1
abbrev set_f_lt (t : k_T) (v : Nat → Int32) : k_T := ((t.1.1, t.1.2.1, v, t.1.2.2.2.1, t.1.2.2.2.2), t.2.1, t.2.2.1, t.2.2.2.1, t.2.2.2.2.1, t.2.2.2.2.2)
abbrev f_n (t : k_T) : Nat := t.1.2.2.2.1
abbrev set_f_n (t : k_T) (v : Nat) : k_T := ((t.1.1, t.1.2.1, t.1.2.2.1, v, t.1.2.2.2.2), t.2.1, t.2.2.1, t.2.2.2.1, t.2.2.2.2.1, t.2.2.2.2.2)
abbrev x_d (t : k_T) : Nat := t.1.2.2.2.2
abbrev set_x_d (t : k_T) (v : Nat) : k_T := ((t.1.1, t.1.2.1, t.1.2.2.1, t.1.2.2.2.1, v), t.2.1, t.2.2.1, t.2.2.2.1, t.2.2.2.2.1, t.2.2.2.2.2)
abbrev s_th (t : k_T) : Nat → Bool := t.2.1.1
abbrev set_s_th (t : k_T) (v : Nat → Bool) : k_T := (t.1, (v, t.2.1.2.1, t.2.1.2.2.1, t.2.1.2.2.2.1, t.2.1.2.2.2.2.1, t.2.1.2.2.2.2.2), t.2.2.1, t.2.2.2.1, t.2.2.2.2.1, t.2.2.2.2.2)
abbrev s_md (t : k_T) : Nat := t.2.1.2.1
abbrev set_s_md (t : k_T) (v : Nat) : k_T := (t.1, (t.2.1.1, v, t.2.1.2.2.1, t.2.1.2.2.2.1, t.2.1.2.2.2.2.1, t.2.1.2.2.2.2.2), t.2.2.1, t.2.2.2.1, t.2.2.2.2.1, t.2.2.2.2.2)
abbrev s_r1 (t : k_T) : Nat := t.2.1.2.2.1
abbrev set_s_r1 (t : k_T) (v : Nat) : k_T := (t.1, (t.2.1.1, t.2.1.2.1, v, t.2.1.2.2.2.1, t.2.1.2.2.2.2.1, t.2.1.2.2.2.2.2), t.2.2.1, t.2.2.2.1, t.2.2.2.2.1, t.2.2.2.2.2)
abbrev s_r2 (t : k_T) : Nat := t.2.1.2.2.2.1
abbrev set_s_r2 (t : k_T) (v : Nat) : k_T := (t.1, (t.2.1.1, t.2.1.2.1, t.2.1.2.2.1, v, t.2.1.2.2.2.2.1, t.2.1.2.2.2.2.2), t.2.2.1, t.2.2.2.1, t.2.2.2.2.1, t.2.2.2.2.2)
abbrev s_r3 (t : k_T) : Nat := t.2.1.2.2.2.2.1
abbrev set_s_r3 (t : k_T) (v : Nat) : k_T := (t.1, (t.2.1.1, t.2.1.2.1, t.2.1.2.2.1, t.2.1.2.2.2.1, v, t.2.1.2.2.2.2.2), t.2.2.1, t.2.2.2.1, t.2.2.2.2.1, t.2.2.2.2.2)
abbrev r_p (t : k_T) : Nat → Nat := t.2.1.2.2.2.2.2
abbrev set_r_p (t : k_T) (v : Nat → Nat) : k_T := (t.1, (t.2.1.1, t.2.1.2.1, t.2.1.2.2.1, t.2.1.2.2.2.1, t.2.1.2.2.2.2.1, v), t.2.2.1, t.2.2.2.1, t.2.2.2.2.1, t.2.2.2.2.2)
abbrev o_n (t : k_T) : Nat := t.2.2.1.1
abbrev set_o_n (t : k_T) (v : Nat) : k_T := (t.1, t.2.1, (v, t.2.2.1.2.1, t.2.2.1.2.2.1, t.2.2.1.2.2.2.1, t.2.2.1.2.2.2.2.1, t.2.2.1.2.2.2.2.2.1, t.2.2.1.2.2.2.2.2.2.1, t.2.2.1.2.2.2.2.2.2.2.1, t.2.2.1.2.2.2.2.2.2.2.2.1, t.2.2.1.2.2.2.2.2.2.2.2.2.1, t.2.2.1.2.2.2.2.2.2.2.2.2.2), t.2.2.2.1, t.2.2.2.2.1, t.2.2.2.2.2)
abbrev o_on (t : k_T) : Nat → Nat := t.2.2.1.2.1
abbrev set_o_on (t : k_T) (v : Nat → Nat) : k_T := (t.1, t.2.1, (t.2.2.1.1, v, t.2.2.1.2.2.1, t.2.2.1.2.2.2.1, t.2.2.1.2.2.2.2.1, t.2.2.1.2.2.2.2.2.1, t.2.2.1.2.2.2.2.2.2.1, t.2.2.1.2.2.2.2.2.2.2.1, t.2.2.1.2.2.2.2.2.2.2.2.1, t.2.2.1.2.2.2.2.2.2.2.2.2.1, t.2.2.1.2.2.2.2.2.2.2.2.2.2), t.2.2.2.1, t.2.2.2.2.1, t.2.2.2.2.2)
abbrev o_b (t : k_T) : Nat → Option Nat := t.2.2.1.2.2.1
abbrev set_o_b (t : k_T) (v : Nat → Option Nat) : k_T := (t.1, t.2.1, (t.2.2.1.1, t.2.2.1.2.1, v, t.2.2.1.2.2.2.1, t.2.2.1.2.2.2.2.1, t.2.2.1.2.2.2.2.2.1, t.2.2.1.2.2.2.2.2.2.1, t.2.2.1.2.2.2.2.2.2.2.1, t.2.2.1.2.2.2.2.2.2.2.2.1, t.2.2.1.2.2.2.2.2.2.2.2.2.1, t.2.2.1.2.2.2.2.2.2.2.2.2.2), t.2.2.2.1, t.2.2.2.2.1, t.2.2.2.2.2)
abbrev o_ca (t : k_T) : Nat → Nat := t.2.2.1.2.2.2.1
abbrev set_o_ca (t : k_T) (v : Nat → Nat) : k_T := (t.1, t.2.1, (t.2.2.1.1, t.2.2.1.2.1, t.2.2.1.2.2.1, v, t.2.2.1.2.2.2.2.1, t.2.2.1.2.2.2.2.2.1, t.2.2.1.2.2.2.2.2.2.1, t.2.2.1.2.2.2.2.2.2.2.1, t.2.2.1.2.2.2.2.2.2.2.2.1, t.2.2.1.2.2.2.2.2.2.2.2.2.1, t.2.2.1.2.2.2.2.2.2.2.2.2.2), t.2.2.2.1, t.2.2.2.2.1, t.2.2.2.2.2)
abbrev o_k (t : k_T) : Nat → Nat → Int32 := t.2.2.1.2.2.2.2.1
abbrev set_o_k (t : k_T) (v : Nat → Nat → Int32) : k_T := (t.1, t.2.1, (t.2.2.1.1, t.2.2.1.2.1, t.2.2.1.2.2.1, t.2.2.1.2.2.2.1, v, t.2.2.1.2.2.2.2.2.1, t.2.2.1.2.2.2.2.2.2.1, t.2.2.1.2.2.2.2.2.2.2.1, t.2.2.1.2.2.2.2.2.2.2.2.1, t.2.2.1.2.2.2.2.2.2.2.2.2.1, t.2.2.1.2.2.2.2.2.2.2.2.2.2), t.2.2.2.1, t.2.2.2.2.1, t.2.2.2.2.2)
abbrev o_kc (t : k_T) : Nat → Nat := t.2.2.1.2.2.2.2.2.1
abbrev set_o_kc (t : k_T) (v : Nat → Nat) : k_T := (t.1, t.2.1, (t.2.2.1.1, t.2.2.1.2.1, t.2.2.1.2.2.1, t.2.2.1.2.2.2.1, t.2.2.1.2.2.2.2.1, v, t.2.2.1.2.2.2.2.2.2.1, t.2.2.1.2.2.2.2.2.2.2.1, t.2.2.1.2.2.2.2.2.2.2.2.1, t.2.2.1.2.2.2.2.2.2.2.2.2.1, t.2.2.1.2.2.2.2.2.2.2.2.2.2), t.2.2.2.1, t.2.2.2.2.1, t.2.2.2.2.2)
abbrev o_dm (t : k_T) : Nat → Bool := t.2.2.1.2.2.2.2.2.2.1
abbrev set_o_dm (t : k_T) (v : Nat → Bool) : k_T := (t.1, t.2.1, (t.2.2.1.1, t.2.2.1.2.1, t.2.2.1.2.2.1, t.2.2.1.2.2.2.1, t.2.2.1.2.2.2.2.1, t.2.2.1.2.2.2.2.2.1, v, t.2.2.1.2.2.2.2.2.2.2.1, t.2.2.1.2.2.2.2.2.2.2.2.1, t.2.2.1.2.2.2.2.2.2.2.2.2.1, t.2.2.1.2.2.2.2.2.2.2.2.2.2), t.2.2.2.1, t.2.2.2.2.1, t.2.2.2.2.2)
abbrev o_pv (t : k_T) : Nat → Bool := t.2.2.1.2.2.2.2.2.2.2.1
abbrev set_o_pv (t : k_T) (v : Nat → Bool) : k_T := (t.1, t.2.1, (t.2.2.1.1, t.2.2.1.2.1, t.2.2.1.2.2.1, t.2.2.1.2.2.2.1, t.2.2.1.2.2.2.2.1, t.2.2.1.2.2.2.2.2.1, t.2.2.1.2.2.2.2.2.2.1, v, t.2.2.1.2.2.2.2.2.2.2.2.1, t.2.2.1.2.2.2.2.2.2.2.2.2.1, t.2.2.1.2.2.2.2.2.2.2.2.2.2), t.2.2.2.1, t.2.2.2.2.1, t.2.2.2.2.2)
abbrev o_pm (t : k_T) : Nat → Bool := t.2.2.1.2.2.2.2.2.2.2.2.1
abbrev set_o_pm (t : k_T) (v : Nat → Bool) : k_T := (t.1, t.2.1, (t.2.2.1.1, t.2.2.1.2.1, t.2.2.1.2.2.1, t.2.2.1.2.2.2.1, t.2.2.1.2.2.2.2.1, t.2.2.1.2.2.2.2.2.1, t.2.2.1.2.2.2.2.2.2.1, t.2.2.1.2.2.2.2.2.2.2.1, v, t.2.2.1.2.2.2.2.2.2.2.2.2.1, t.2.2.1.2.2.2.2.2.2.2.2.2.2), t.2.2.2.1, t.2.2.2.2.1, t.2.2.2.2.2)
abbrev o_nd (t : k_T) : Nat → Bool := t.2.2.1.2.2.2.2.2.2.2.2.2.1
abbrev set_o_nd (t : k_T) (v : Nat → Bool) : k_T := (t.1, t.2.1, (t.2.2.1.1, t.2.2.1.2.1, t.2.2.1.2.2.1, t.2.2.1.2.2.2.1, t.2.2.1.2.2.2.2.1, t.2.2.1.2.2.2.2.2.1, t.2.2.1.2.2.2.2.2.2.1, t.2.2.1.2.2.2.2.2.2.2.1, t.2.2.1.2.2.2.2.2.2.2.2.1, v, t.2.2.1.2.2.2.2.2.2.2.2.2.2), t.2.2.2.1, t.2.2.2.2.1, t.2.2.2.2.2)
abbrev o_hd (t : k_T) : Nat → Bool := t.2.2.1.2.2.2.2.2.2.2.2.2.2
abbrev set_o_hd (t : k_T) (v : Nat → Bool) : k_T := (t.1, t.2.1, (t.2.2.1.1, t.2.2.1.2.1, t.2.2.1.2.2.1, t.2.2.1.2.2.2.1, t.2.2.1.2.2.2.2.1, t.2.2.1.2.2.2.2.2.1, t.2.2.1.2.2.2.2.2.2.1, t.2.2.1.2.2.2.2.2.2.2.1, t.2.2.1.2.2.2.2.2.2.2.2.1, t.2.2.1.2.2.2.2.2.2.2.2.2.1, v), t.2.2.2.1, t.2.2.2.2.1, t.2.2.2.2.2)
abbrev m_c (t : k_T) : Nat → Int32 := t.2.2.2.1.1
abbrev set_m_c (t : k_T) (v : Nat → Int32) : k_T := (t.1, t.2.1, t.2.2.1, (v, t.2.2.2.1.2.1, t.2.2.2.1.2.2.1, t.2.2.2.1.2.2.2.1, t.2.2.2.1.2.2.2.2.1, t.2.2.2.1.2.2.2.2.2.1, t.2.2.2.1.2.2.2.2.2.2.1, t.2.2.2.1.2.2.2.2.2.2.2.1, t.2.2.2.1.2.2.2.2.2.2.2.2), t.2.2.2.2.1, t.2.2.2.2.2)
abbrev m_ch (t : k_T) : Nat → Nat := t.2.2.2.1.2.1
abbrev set_m_ch (t : k_T) (v : Nat → Nat) : k_T := (t.1, t.2.1, t.2.2.1, (t.2.2.2.1.1, v, t.2.2.2.1.2.2.1, t.2.2.2.1.2.2.2.1, t.2.2.2.1.2.2.2.2.1, t.2.2.2.1.2.2.2.2.2.1, t.2.2.2.1.2.2.2.2.2.2.1, t.2.2.2.1.2.2.2.2.2.2.2.1, t.2.2.2.1.2.2.2.2.2.2.2.2), t.2.2.2.2.1, t.2.2.2.2.2)
abbrev m_n (t : k_T) : Nat := t.2.2.2.1.2.2.1
abbrev set_m_n (t : k_T) (v : Nat) : k_T := (t.1, t.2.1, t.2.2.1, (t.2.2.2.1.1, t.2.2.2.1.2.1, v, t.2.2.2.1.2.2.2.1, t.2.2.2.1.2.2.2.2.1, t.2.2.2.1.2.2.2.2.2.1, t.2.2.2.1.2.2.2.2.2.2.1, t.2.2.2.1.2.2.2.2.2.2.2.1, t.2.2.2.1.2.2.2.2.2.2.2.2), t.2.2.2.2.1, t.2.2.2.2.2)
abbrev m_d (t : k_T) : Nat := t.2.2.2.1.2.2.2.1
abbrev set_m_d (t : k_T) (v : Nat) : k_T := (t.1, t.2.1, t.2.2.1, (t.2.2.2.1.1, t.2.2.2.1.2.1, t.2.2.2.1.2.2.1, v, t.2.2.2.1.2.2.2.2.1, t.2.2.2.1.2.2.2.2.2.1, t.2.2.2.1.2.2.2.2.2.2.1, t.2.2.2.1.2.2.2.2.2.2.2.1, t.2.2.2.1.2.2.2.2.2.2.2.2), t.2.2.2.2.1, t.2.2.2.2.2)
abbrev m_on (t : k_T) : Nat → Nat := t.2.2.2.1.2.2.2.2.1
abbrev set_m_on (t : k_T) (v : Nat → Nat) : k_T := (t.1, t.2.1, t.2.2.1, (t.2.2.2.1.1, t.2.2.2.1.2.1, t.2.2.2.1.2.2.1, t.2.2.2.1.2.2.2.1, v, t.2.2.2.1.2.2.2.2.2.1, t.2.2.2.1.2.2.2.2.2.2.1, t.2.2.2.1.2.2.2.2.2.2.2.1, t.2.2.2.1.2.2.2.2.2.2.2.2), t.2.2.2.2.1, t.2.2.2.2.2)
abbrev m_b (t : k_T) : Nat → Option Nat := t.2.2.2.1.2.2.2.2.2.1
abbrev set_m_b (t : k_T) (v : Nat → Option Nat) : k_T := (t.1, t.2.1, t.2.2.1, (t.2.2.2.1.1, t.2.2.2.1.2.1, t.2.2.2.1.2.2.1, t.2.2.2.1.2.2.2.1, t.2.2.2.1.2.2.2.2.1, v, t.2.2.2.1.2.2.2.2.2.2.1, t.2.2.2.1.2.2.2.2.2.2.2.1, t.2.2.2.1.2.2.2.2.2.2.2.2), t.2.2.2.2.1, t.2.2.2.2.2)
abbrev m_sz (t : k_T) : Nat → Nat := t.2.2.2.1.2.2.2.2.2.2.1
abbrev set_m_sz (t : k_T) (v : Nat → Nat) : k_T := (t.1, t.2.1, t.2.2.1, (t.2.2.2.1.1, t.2.2.2.1.2.1, t.2.2.2.1.2.2.1, t.2.2.2.1.2.2.2.1, t.2.2.2.1.2.2.2.2.1, t.2.2.2.1.2.2.2.2.2.1, v, t.2.2.2.1.2.2.2.2.2.2.2.1, t.2.2.2.1.2.2.2.2.2.2.2.2), t.2.2.2.2.1, t.2.2.2.2.2)
abbrev m_at (t : k_T) : Nat → Nat := t.2.2.2.1.2.2.2.2.2.2.2.1
abbrev set_m_at (t : k_T) (v : Nat → Nat) : k_T := (t.1, t.2.1, t.2.2.1, (t.2.2.2.1.1, t.2.2.2.1.2.1, t.2.2.2.1.2.2.1, t.2.2.2.1.2.2.2.1, t.2.2.2.1.2.2.2.2.1, t.2.2.2.1.2.2.2.2.2.1, t.2.2.2.1.2.2.2.2.2.2.1, v, t.2.2.2.1.2.2.2.2.2.2.2.2), t.2.2.2.2.1, t.2.2.2.2.2)
abbrev m_k (t : k_T) : Nat → Int32 := t.2.2.2.1.2.2.2.2.2.2.2.2
abbrev set_m_k (t : k_T) (v : Nat → Int32) : k_T := (t.1, t.2.1, t.2.2.1, (t.2.2.2.1.1, t.2.2.2.1.2.1, t.2.2.2.1.2.2.1, t.2.2.2.1.2.2.2.1, t.2.2.2.1.2.2.2.2.1, t.2.2.2.1.2.2.2.2.2.1, t.2.2.2.1.2.2.2.2.2.2.1, t.2.2.2.1.2.2.2.2.2.2.2.1, v), t.2.2.2.2.1, t.2.2.2.2.2)
abbrev m_th (t : k_T) : Nat → Bool := t.2.2.2.2.1.1
abbrev set_m_th (t : k_T) (v : Nat → Bool) : k_T := (t.1, t.2.1, t.2.2.1, t.2.2.2.1, (v, t.2.2.2.2.1.2.1, t.2.2.2.2.1.2.2.1, t.2.2.2.2.1.2.2.2.1, t.2.2.2.2.1.2.2.2.2.1, t.2.2.2.2.1.2.2.2.2.2.1, t.2.2.2.2.1.2.2.2.2.2.2.1, t.2.2.2.2.1.2.2.2.2.2.2.2.1, t.2.2.2.2.1.2.2.2.2.2.2.2.2.1, t.2.2.2.2.1.2.2.2.2.2.2.2.2.2.1, t.2.2.2.2.1.2.2.2.2.2.2.2.2.2.2.1, t.2.2.2.2.1.2.2.2.2.2.2.2.2.2.2.2), t.2.2.2.2.2)
abbrev m_dm (t : k_T) : Nat → Bool := t.2.2.2.2.1.2.1
abbrev set_m_dm (t : k_T) (v : Nat → Bool) : k_T := (t.1, t.2.1, t.2.2.1, t.2.2.2.1, (t.2.2.2.2.1.1, v, t.2.2.2.2.1.2.2.1, t.2.2.2.2.1.2.2.2.1, t.2.2.2.2.1.2.2.2.2.1, t.2.2.2.2.1.2.2.2.2.2.1, t.2.2.2.2.1.2.2.2.2.2.2.1, t.2.2.2.2.1.2.2.2.2.2.2.2.1, t.2.2.2.2.1.2.2.2.2.2.2.2.2.1, t.2.2.2.2.1.2.2.2.2.2.2.2.2.2.1, t.2.2.2.2.1.2.2.2.2.2.2.2.2.2.2.1, t.2.2.2.2.1.2.2.2.2.2.2.2.2.2.2.2), t.2.2.2.2.2)
abbrev m_pv (t : k_T) : Nat → Bool := t.2.2.2.2.1.2.2.1
abbrev set_m_pv (t : k_T) (v : Nat → Bool) : k_T := (t.1, t.2.1, t.2.2.1, t.2.2.2.1, (t.2.2.2.2.1.1, t.2.2.2.2.1.2.1, v, t.2.2.2.2.1.2.2.2.1, t.2.2.2.2.1.2.2.2.2.1, t.2.2.2.2.1.2.2.2.2.2.1, t.2.2.2.2.1.2.2.2.2.2.2.1, t.2.2.2.2.1.2.2.2.2.2.2.2.1, t.2.2.2.2.1.2.2.2.2.2.2.2.2.1, t.2.2.2.2.1.2.2.2.2.2.2.2.2.2.1, t.2.2.2.2.1.2.2.2.2.2.2.2.2.2.2.1, t.2.2.2.2.1.2.2.2.2.2.2.2.2.2.2.2), t.2.2.2.2.2)
abbrev m_md (t : k_T) : Nat := t.2.2.2.2.1.2.2.2.1
abbrev set_m_md (t : k_T) (v : Nat) : k_T := (t.1, t.2.1, t.2.2.1, t.2.2.2.1, (t.2.2.2.2.1.1, t.2.2.2.2.1.2.1, t.2.2.2.2.1.2.2.1, v, t.2.2.2.2.1.2.2.2.2.1, t.2.2.2.2.1.2.2.2.2.2.1, t.2.2.2.2.1.2.2.2.2.2.2.1, t.2.2.2.2.1.2.2.2.2.2.2.2.1, t.2.2.2.2.1.2.2.2.2.2.2.2.2.1, t.2.2.2.2.1.2.2.2.2.2.2.2.2.2.1, t.2.2.2.2.1.2.2.2.2.2.2.2.2.2.2.1, t.2.2.2.2.1.2.2.2.2.2.2.2.2.2.2.2), t.2.2.2.2.2)
abbrev m_r1 (t : k_T) : Nat := t.2.2.2.2.1.2.2.2.2.1
abbrev set_m_r1 (t : k_T) (v : Nat) : k_T := (t.1, t.2.1, t.2.2.1, t.2.2.2.1, (t.2.2.2.2.1.1, t.2.2.2.2.1.2.1, t.2.2.2.2.1.2.2.1, t.2.2.2.2.1.2.2.2.1, v, t.2.2.2.2.1.2.2.2.2.2.1, t.2.2.2.2.1.2.2.2.2.2.2.1, t.2.2.2.2.1.2.2.2.2.2.2.2.1, t.2.2.2.2.1.2.2.2.2.2.2.2.2.1, t.2.2.2.2.1.2.2.2.2.2.2.2.2.2.1, t.2.2.2.2.1.2.2.2.2.2.2.2.2.2.2.1, t.2.2.2.2.1.2.2.2.2.2.2.2.2.2.2.2), t.2.2.2.2.2)
abbrev m_r2 (t : k_T) : Nat := t.2.2.2.2.1.2.2.2.2.2.1
abbrev set_m_r2 (t : k_T) (v : Nat) : k_T := (t.1, t.2.1, t.2.2.1, t.2.2.2.1, (t.2.2.2.2.1.1, t.2.2.2.2.1.2.1, t.2.2.2.2.1.2.2.1, t.2.2.2.2.1.2.2.2.1, t.2.2.2.2.1.2.2.2.2.1, v, t.2.2.2.2.1.2.2.2.2.2.2.1, t.2.2.2.2.1.2.2.2.2.2.2.2.1, t.2.2.2.2.1.2.2.2.2.2.2.2.2.1, t.2.2.2.2.1.2.2.2.2.2.2.2.2.2.1, t.2.2.2.2.1.2.2.2.2.2.2.2.2.2.2.1, t.2.2.2.2.1.2.2.2.2.2.2.2.2.2.2.2), t.2.2.2.2.2)
abbrev m_r3 (t : k_T) : Nat := t.2.2.2.2.1.2.2.2.2.2.2.1
abbrev set_m_r3 (t : k_T) (v : Nat) : k_T := (t.1, t.2.1, t.2.2.1, t.2.2.2.1, (t.2.2.2.2.1.1, t.2.2.2.2.1.2.1, t.2.2.2.2.1.2.2.1, t.2.2.2.2.1.2.2.2.1, t.2.2.2.2.1.2.2.2.2.1, t.2.2.2.2.1.2.2.2.2.2.1, v, t.2.2.2.2.1.2.2.2.2.2.2.2.1, t.2.2.2.2.1.2.2.2.2.2.2.2.2.1, t.2.2.2.2.1.2.2.2.2.2.2.2.2.2.1, t.2.2.2.2.1.2.2.2.2.2.2.2.2.2.2.1, t.2.2.2.2.1.2.2.2.2.2.2.2.2.2.2.2), t.2.2.2.2.2)
abbrev m_pm (t : k_T) : Nat → Bool := t.2.2.2.2.1.2.2.2.2.2.2.2.1
abbrev set_m_pm (t : k_T) (v : Nat → Bool) : k_T := (t.1, t.2.1, t.2.2.1, t.2.2.2.1, (t.2.2.2.2.1.1, t.2.2.2.2.1.2.1, t.2.2.2.2.1.2.2.1, t.2.2.2.2.1.2.2.2.1, t.2.2.2.2.1.2.2.2.2.1, t.2.2.2.2.1.2.2.2.2.2.1, t.2.2.2.2.1.2.2.2.2.2.2.1, v, t.2.2.2.2.1.2.2.2.2.2.2.2.2.1, t.2.2.2.2.1.2.2.2.2.2.2.2.2.2.1, t.2.2.2.2.1.2.2.2.2.2.2.2.2.2.2.1, t.2.2.2.2.1.2.2.2.2.2.2.2.2.2.2.2), t.2.2.2.2.2)
abbrev m_nd (t : k_T) : Nat → Bool := t.2.2.2.2.1.2.2.2.2.2.2.2.2.1
abbrev set_m_nd (t : k_T) (v : Nat → Bool) : k_T := (t.1, t.2.1, t.2.2.1, t.2.2.2.1, (t.2.2.2.2.1.1, t.2.2.2.2.1.2.1, t.2.2.2.2.1.2.2.1, t.2.2.2.2.1.2.2.2.1, t.2.2.2.2.1.2.2.2.2.1, t.2.2.2.2.1.2.2.2.2.2.1, t.2.2.2.2.1.2.2.2.2.2.2.1, t.2.2.2.2.1.2.2.2.2.2.2.2.1, v, t.2.2.2.2.1.2.2.2.2.2.2.2.2.2.1, t.2.2.2.2.1.2.2.2.2.2.2.2.2.2.2.1, t.2.2.2.2.1.2.2.2.2.2.2.2.2.2.2.2), t.2.2.2.2.2)
abbrev m_ls (t : k_T) : Nat → Bool := t.2.2.2.2.1.2.2.2.2.2.2.2.2.2.1
abbrev set_m_ls (t : k_T) (v : Nat → Bool) : k_T := (t.1, t.2.1, t.2.2.1, t.2.2.2.1, (t.2.2.2.2.1.1, t.2.2.2.2.1.2.1, t.2.2.2.2.1.2.2.1, t.2.2.2.2.1.2.2.2.1, t.2.2.2.2.1.2.2.2.2.1, t.2.2.2.2.1.2.2.2.2.2.1, t.2.2.2.2.1.2.2.2.2.2.2.1, t.2.2.2.2.1.2.2.2.2.2.2.2.1, t.2.2.2.2.1.2.2.2.2.2.2.2.2.1, v, t.2.2.2.2.1.2.2.2.2.2.2.2.2.2.2.1, t.2.2.2.2.1.2.2.2.2.2.2.2.2.2.2.2), t.2.2.2.2.2)
abbrev m_rt (t : k_T) : Nat → Nat := t.2.2.2.2.1.2.2.2.2.2.2.2.2.2.2.1
abbrev set_m_rt (t : k_T) (v : Nat → Nat) : k_T := (t.1, t.2.1, t.2.2.1, t.2.2.2.1, (t.2.2.2.2.1.1, t.2.2.2.2.1.2.1, t.2.2.2.2.1.2.2.1, t.2.2.2.2.1.2.2.2.1, t.2.2.2.2.1.2.2.2.2.1, t.2.2.2.2.1.2.2.2.2.2.1, t.2.2.2.2.1.2.2.2.2.2.2.1, t.2.2.2.2.1.2.2.2.2.2.2.2.1, t.2.2.2.2.1.2.2.2.2.2.2.2.2.1, t.2.2.2.2.1.2.2.2.2.2.2.2.2.2.1, v, t.2.2.2.2.1.2.2.2.2.2.2.2.2.2.2.2), t.2.2.2.2.2)
abbrev m_l (t : k_T) : Nat := t.2.2.2.2.1.2.2.2.2.2.2.2.2.2.2.2
abbrev set_m_l (t : k_T) (v : Nat) : k_T := (t.1, t.2.1, t.2.2.1, t.2.2.2.1, (t.2.2.2.2.1.1, t.2.2.2.2.1.2.1, t.2.2.2.2.1.2.2.1, t.2.2.2.2.1.2.2.2.1, t.2.2.2.2.1.2.2.2.2.1, t.2.2.2.2.1.2.2.2.2.2.1, t.2.2.2.2.1.2.2.2.2.2.2.1, t.2.2.2.2.1.2.2.2.2.2.2.2.1, t.2.2.2.2.1.2.2.2.2.2.2.2.2.1, t.2.2.2.2.1.2.2.2.2.2.2.2.2.2.1, t.2.2.2.2.1.2.2.2.2.2.2.2.2.2.2.1, v), t.2.2.2.2.2)
abbrev l_o (t : k_T) : Nat → Int64 := t.2.2.2.2.2
abbrev set_l_o (t : k_T) (v : Nat → Int64) : k_T := (t.1, t.2.1, t.2.2.1, t.2.2.2.1, t.2.2.2.2.1, v)
def kb (b : Bool) : Int32 := match b with | true => 1 | false => 0
theorem kb_nar (b : Bool) : narrow .boolean (.int (kb b)) = .int (kb b) := by cases b <;> rfl
theorem kb_fit (b : Bool) : fits .boolean (.int (kb b)) = true := by cases b <;> rfl
theorem kb_t : kb true = 1 := rfl
theorem kb_f : kb false = 0 := rfl
theorem kb_0 {b : Bool} : kb b = 0 ↔ b = false := by cases b <;> decide
theorem kb_1 {b : Bool} : kb b = 1 ↔ b = true := by cases b <;> decide
def kO (o : Option Nat) : Int32 := match o with | none => -1 | some j => nI j
def k_f (b : Nat) (e : va_E) : Option va_E := match b with | 0 => some e | _ + 1 => none
def k_ct (g : k_g) (ad : k_AD) (t : k_T) : k_G := fun a b => match a with
  | 0 => k_f b (.inr (4, [.ref (ad 1 0), .ref (ad 5 0), .ref (ad 7 0), .int (nI (x_d t))]))
  | 1 => k_f b (.inr (1, [.ref (ad 2 0), .ref (ad 3 0), .ref (ad 4 0), .int (nI (f_n t))]))
  | 2 => k_f b (.inl (g.2.1 0, 10, .inl (f_c t)))
  | 3 => k_f b (.inl (g.2.1 0, 300, .inl (fun j => nI (f_lf t j))))
  | 4 => k_f b (.inl (g.2.1 0, 300, .inl (f_lt t)))
  | 5 => k_f b (.inr (3, [.ref (ad 6 0), .int (nI (s_md t)), .int (nI (s_r1 t)), .int (nI (s_r2 t)), .int (nI (s_r3 t))]))
  | 6 => k_f b (.inl (g.2.1 3, 60, .inr (.inr (.inr (.inr (fun j => if s_th t j = true then some (ad 25 j) else none))))))
  | 7 => k_f b (.inr (2, [.ref (ad 8 0)]))
  | 8 => k_f b (.inl (g.2.1 0, 365, .inl (fun j => nI (r_p t j))))
  | 9 => k_f b (.inr (5, [.ref (ad 10 0), .ref (ad 11 0), .int (nI (m_n t)), .int (nI (m_d t)), .ref (ad 12 0), .ref (ad 13 0), .ref (ad 14 0), .ref (ad 15 0), .ref (ad 16 0), .ref (ad 17 0), .ref (ad 18 0), .ref (ad 19 0), .int (nI (m_md t)), .int (nI (m_r1 t)), .int (nI (m_r2 t)), .int (nI (m_r3 t)), .ref (ad 20 0), .ref (ad 21 0), .ref (ad 22 0), .ref (ad 23 0), .int (nI (m_l t))]))
  | 10 => k_f b (.inl (g.2.1 0, 10, .inl (m_c t)))
  | 11 => k_f b (.inl (g.2.1 0, 10, .inl (fun j => nI (m_ch t j))))
  | 12 => k_f b (.inl (g.2.1 0, 60, .inl (fun j => nI (m_on t j))))
  | 13 => k_f b (.inl (g.2.1 0, 60, .inl (fun j => kO (m_b t j))))
  | 14 => k_f b (.inl (g.2.1 0, 60, .inl (fun j => nI (m_sz t j))))
  | 15 => k_f b (.inl (g.2.1 0, 60, .inl (fun j => nI (m_at t j))))
  | 16 => k_f b (.inl (g.2.1 0, 600, .inl (m_k t)))
  | 17 => k_f b (.inl (g.2.1 1, 60, .inl (fun j => kb (m_th t j))))
  | 18 => k_f b (.inl (g.2.1 1, 60, .inl (fun j => kb (m_dm t j))))
  | 19 => k_f b (.inl (g.2.1 1, 60, .inl (fun j => kb (m_pv t j))))
  | 20 => k_f b (.inl (g.2.1 1, 60, .inl (fun j => kb (m_pm t j))))
  | 21 => k_f b (.inl (g.2.1 1, 60, .inl (fun j => kb (m_nd t j))))
  | 22 => k_f b (.inl (g.2.1 1, 60, .inl (fun j => kb (m_ls t j))))
  | 23 => k_f b (.inl (g.2.1 0, 365, .inl (fun j => nI (m_rt t j))))
  | 24 => k_f b (.inl (g.2.1 2, 1, .inr (.inl (l_o t))))
  | 25 => if b < o_n t then some (.inr (0, [.int (nI b), .int (nI (o_on t b)), va_rf ((o_b t b).map (ad 25)), .int (nI (o_ca t b)), .ref (ad 26 b), .int (nI (o_kc t b)), .int (kb (o_dm t b)), .int (kb (o_pv t b)), .int (kb (o_pm t b)), .int (kb (o_nd t b)), .int (kb (o_hd t b))])) else none
  | 26 => if b < o_n t then some (.inl (g.2.1 0, 10, .inl (o_k t b))) else none
  | _ => none
abbrev k_H (g : k_g) (ad : k_AD) (t : k_T) (H : Heap) : Prop := k_Wd g (k_ct g ad t) ad H
theorem kc_0 (g : k_g) (ad : k_AD) (t : k_T) : k_ct g ad t 0 0 = some (.inr (4, [.ref (ad 1 0), .ref (ad 5 0), .ref (ad 7 0), .int (nI (x_d t))])) := rfl
theorem kc_1 (g : k_g) (ad : k_AD) (t : k_T) : k_ct g ad t 1 0 = some (.inr (1, [.ref (ad 2 0), .ref (ad 3 0), .ref (ad 4 0), .int (nI (f_n t))])) := rfl
theorem kc_2 (g : k_g) (ad : k_AD) (t : k_T) : k_ct g ad t 2 0 = some (.inl (g.2.1 0, 10, .inl (f_c t))) := rfl
theorem kc_3 (g : k_g) (ad : k_AD) (t : k_T) : k_ct g ad t 3 0 = some (.inl (g.2.1 0, 300, .inl (fun j => nI (f_lf t j)))) := rfl
theorem kc_4 (g : k_g) (ad : k_AD) (t : k_T) : k_ct g ad t 4 0 = some (.inl (g.2.1 0, 300, .inl (f_lt t))) := rfl
theorem kc_5 (g : k_g) (ad : k_AD) (t : k_T) : k_ct g ad t 5 0 = some (.inr (3, [.ref (ad 6 0), .int (nI (s_md t)), .int (nI (s_r1 t)), .int (nI (s_r2 t)), .int (nI (s_r3 t))])) := rfl
theorem kc_6 (g : k_g) (ad : k_AD) (t : k_T) : k_ct g ad t 6 0 = some (.inl (g.2.1 3, 60, .inr (.inr (.inr (.inr (fun j => if s_th t j = true then some (ad 25 j) else none)))))) := rfl
theorem kc_7 (g : k_g) (ad : k_AD) (t : k_T) : k_ct g ad t 7 0 = some (.inr (2, [.ref (ad 8 0)])) := rfl
theorem kc_8 (g : k_g) (ad : k_AD) (t : k_T) : k_ct g ad t 8 0 = some (.inl (g.2.1 0, 365, .inl (fun j => nI (r_p t j)))) := rfl
theorem kc_9 (g : k_g) (ad : k_AD) (t : k_T) : k_ct g ad t 9 0 = some (.inr (5, [.ref (ad 10 0), .ref (ad 11 0), .int (nI (m_n t)), .int (nI (m_d t)), .ref (ad 12 0), .ref (ad 13 0), .ref (ad 14 0), .ref (ad 15 0), .ref (ad 16 0), .ref (ad 17 0), .ref (ad 18 0), .ref (ad 19 0), .int (nI (m_md t)), .int (nI (m_r1 t)), .int (nI (m_r2 t)), .int (nI (m_r3 t)), .ref (ad 20 0), .ref (ad 21 0), .ref (ad 22 0), .ref (ad 23 0), .int (nI (m_l t))])) := rfl
theorem kc_10 (g : k_g) (ad : k_AD) (t : k_T) : k_ct g ad t 10 0 = some (.inl (g.2.1 0, 10, .inl (m_c t))) := rfl
theorem kc_11 (g : k_g) (ad : k_AD) (t : k_T) : k_ct g ad t 11 0 = some (.inl (g.2.1 0, 10, .inl (fun j => nI (m_ch t j)))) := rfl
theorem kc_12 (g : k_g) (ad : k_AD) (t : k_T) : k_ct g ad t 12 0 = some (.inl (g.2.1 0, 60, .inl (fun j => nI (m_on t j)))) := rfl
theorem kc_13 (g : k_g) (ad : k_AD) (t : k_T) : k_ct g ad t 13 0 = some (.inl (g.2.1 0, 60, .inl (fun j => kO (m_b t j)))) := rfl
theorem kc_14 (g : k_g) (ad : k_AD) (t : k_T) : k_ct g ad t 14 0 = some (.inl (g.2.1 0, 60, .inl (fun j => nI (m_sz t j)))) := rfl
theorem kc_15 (g : k_g) (ad : k_AD) (t : k_T) : k_ct g ad t 15 0 = some (.inl (g.2.1 0, 60, .inl (fun j => nI (m_at t j)))) := rfl
theorem kc_16 (g : k_g) (ad : k_AD) (t : k_T) : k_ct g ad t 16 0 = some (.inl (g.2.1 0, 600, .inl (m_k t))) := rfl
theorem kc_17 (g : k_g) (ad : k_AD) (t : k_T) : k_ct g ad t 17 0 = some (.inl (g.2.1 1, 60, .inl (fun j => kb (m_th t j)))) := rfl
theorem kc_18 (g : k_g) (ad : k_AD) (t : k_T) : k_ct g ad t 18 0 = some (.inl (g.2.1 1, 60, .inl (fun j => kb (m_dm t j)))) := rfl
theorem kc_19 (g : k_g) (ad : k_AD) (t : k_T) : k_ct g ad t 19 0 = some (.inl (g.2.1 1, 60, .inl (fun j => kb (m_pv t j)))) := rfl
theorem kc_20 (g : k_g) (ad : k_AD) (t : k_T) : k_ct g ad t 20 0 = some (.inl (g.2.1 1, 60, .inl (fun j => kb (m_pm t j)))) := rfl
theorem kc_21 (g : k_g) (ad : k_AD) (t : k_T) : k_ct g ad t 21 0 = some (.inl (g.2.1 1, 60, .inl (fun j => kb (m_nd t j)))) := rfl
theorem kc_22 (g : k_g) (ad : k_AD) (t : k_T) : k_ct g ad t 22 0 = some (.inl (g.2.1 1, 60, .inl (fun j => kb (m_ls t j)))) := rfl
theorem kc_23 (g : k_g) (ad : k_AD) (t : k_T) : k_ct g ad t 23 0 = some (.inl (g.2.1 0, 365, .inl (fun j => nI (m_rt t j)))) := rfl
theorem kc_24 (g : k_g) (ad : k_AD) (t : k_T) : k_ct g ad t 24 0 = some (.inl (g.2.1 2, 1, .inr (.inl (l_o t)))) := rfl
theorem kc_25 (g : k_g) (ad : k_AD) (t : k_T) {b : Nat} (h : b < o_n t) : k_ct g ad t 25 b = some (.inr (0, [.int (nI b), .int (nI (o_on t b)), va_rf ((o_b t b).map (ad 25)), .int (nI (o_ca t b)), .ref (ad 26 b), .int (nI (o_kc t b)), .int (kb (o_dm t b)), .int (kb (o_pv t b)), .int (kb (o_pm t b)), .int (kb (o_nd t b)), .int (kb (o_hd t b))])) := if_pos h
theorem kc_26 (g : k_g) (ad : k_AD) (t : k_T) {b : Nat} (h : b < o_n t) : k_ct g ad t 26 b = some (.inl (g.2.1 0, 10, .inl (o_k t b))) := if_pos h
theorem k_to {g : k_g} {ad : k_AD} {t t2 : k_T} {H : Heap} {x y : Nat} {e : va_E} (hs : ∀ a b, ¬ (a = x ∧ b = y) → k_ct g ad t2 a b = k_ct g ad t a b) (he : k_ct g ad t2 x y = some e) (h : k_Wd g (k_up (k_ct g ad t) x y e) ad H) : k_H g ad t2 H := by
  refine h.to fun a b z hz => ?_
  by_cases hq : a = x ∧ b = y
  · obtain ⟨rfl, rfl⟩ := hq
    simp only [k_up, and_self, if_true]
    exact he.symm.trans hz
  · simp only [k_up, if_neg hq]
    rw [← hs a b hq]; exact hz
theorem k_fnN (f : Nat → Nat) (k v : Nat) : upd (fun j => nI (f j)) k (nI v) = fun j => nI (va_up f k v j) := by
  funext j; by_cases h : j = k <;> simp [upd, va_up, h]
theorem k_fnO (f : Nat → Option Nat) (k : Nat) (v : Option Nat) : upd (fun j => kO (f j)) k (kO v) = fun j => kO (va_up f k v j) := by
  funext j; by_cases h : j = k <;> simp [upd, va_up, h]
theorem k_fnB (f : Nat → Bool) (k : Nat) (v : Bool) : upd (fun j => kb (f j)) k (kb v) = fun j => kb (va_up f k v j) := by
  funext j; by_cases h : j = k <;> simp [upd, va_up, h]
theorem k_fnI (f : Nat → Int32) (k : Nat) (v : Int32) : upd f k v = va_up f k v := rfl
theorem k_fnR (ad : k_AD) (f : Nat → Bool) (k : Nat) : va_up (fun j => if f j = true then some (ad 25 j) else none) k (some (ad 25 k)) = fun j => if va_up f k true j = true then some (ad 25 j) else none := by
  funext j; by_cases h : j = k <;> simp [va_up, h]
theorem k_fnR0 (ad : k_AD) (f : Nat → Bool) (k : Nat) : va_up (fun j => if f j = true then some (ad 25 j) else none) k none = fun j => if va_up f k false j = true then some (ad 25 j) else none := by
  funext j; by_cases h : j = k <;> simp [va_up, h]
theorem ks_x_d (g : k_g) (ad : k_AD) (t : k_T) (v : Nat) : ∀ a b, ¬ (a = 0 ∧ b = 0) → k_ct g ad (set_x_d t v) a b = k_ct g ad t a b := by
  intro a b h
  match a with
  | 0 => match b with | 0 => exact absurd ⟨rfl, rfl⟩ h | b + 1 => rfl
  | 1 => rfl
  | 2 => rfl
  | 3 => rfl
  | 4 => rfl
  | 5 => rfl
  | 6 => rfl
  | 7 => rfl
  | 8 => rfl
  | 9 => rfl
  | 10 => rfl
  | 11 => rfl
  | 12 => rfl
  | 13 => rfl
  | 14 => rfl
  | 15 => rfl
  | 16 => rfl
  | 17 => rfl
  | 18 => rfl
  | 19 => rfl
  | 20 => rfl
  | 21 => rfl
  | 22 => rfl
  | 23 => rfl
  | 24 => rfl
  | 25 => rfl
  | 26 => rfl
  | _ + 27 => rfl
theorem kt_x_d {g : k_g} {ad : k_AD} {t : k_T} {H : Heap} (v : Nat) {x : Int32} (hx : x = nI v) (h : k_Wd g (k_up (k_ct g ad t) 0 0 (.inr (4, [.ref (ad 1 0), .ref (ad 5 0), .ref (ad 7 0), .int x]))) ad H) : k_H g ad (set_x_d t v) H := by
  subst hx; exact k_to (ks_x_d g ad t v) rfl h
theorem ks_f_n (g : k_g) (ad : k_AD) (t : k_T) (v : Nat) : ∀ a b, ¬ (a = 1 ∧ b = 0) → k_ct g ad (set_f_n t v) a b = k_ct g ad t a b := by
  intro a b h
  match a with
  | 0 => rfl
  | 1 => match b with | 0 => exact absurd ⟨rfl, rfl⟩ h | b + 1 => rfl
  | 2 => rfl
  | 3 => rfl
  | 4 => rfl
  | 5 => rfl
  | 6 => rfl
  | 7 => rfl
  | 8 => rfl
  | 9 => rfl
  | 10 => rfl
  | 11 => rfl
  | 12 => rfl
  | 13 => rfl
  | 14 => rfl
  | 15 => rfl
  | 16 => rfl
  | 17 => rfl
  | 18 => rfl
  | 19 => rfl
  | 20 => rfl
  | 21 => rfl
  | 22 => rfl
  | 23 => rfl
  | 24 => rfl
  | 25 => rfl
  | 26 => rfl
  | _ + 27 => rfl
theorem kt_f_n {g : k_g} {ad : k_AD} {t : k_T} {H : Heap} (v : Nat) {x : Int32} (hx : x = nI v) (h : k_Wd g (k_up (k_ct g ad t) 1 0 (.inr (1, [.ref (ad 2 0), .ref (ad 3 0), .ref (ad 4 0), .int x]))) ad H) : k_H g ad (set_f_n t v) H := by
  subst hx; exact k_to (ks_f_n g ad t v) rfl h
theorem ks_f_c (g : k_g) (ad : k_AD) (t : k_T) (v : Nat → Int32) : ∀ a b, ¬ (a = 2 ∧ b = 0) → k_ct g ad (set_f_c t v) a b = k_ct g ad t a b := by
  intro a b h
  match a with
  | 0 => rfl
  | 1 => rfl
  | 2 => match b with | 0 => exact absurd ⟨rfl, rfl⟩ h | b + 1 => rfl
  | 3 => rfl
  | 4 => rfl
  | 5 => rfl
  | 6 => rfl
  | 7 => rfl
  | 8 => rfl
  | 9 => rfl
  | 10 => rfl
  | 11 => rfl
  | 12 => rfl
  | 13 => rfl
  | 14 => rfl
  | 15 => rfl
  | 16 => rfl
  | 17 => rfl
  | 18 => rfl
  | 19 => rfl
  | 20 => rfl
  | 21 => rfl
  | 22 => rfl
  | 23 => rfl
  | 24 => rfl
  | 25 => rfl
  | 26 => rfl
  | _ + 27 => rfl
theorem kt_f_c {g : k_g} {ad : k_AD} {t : k_T} {H : Heap} (k : Nat) (v : Int32) {x : Int32} (hx : x = v) (h : k_Wd g (k_up (k_ct g ad t) 2 0 (.inl (g.2.1 0, 10, .inl (upd (f_c t) k x)))) ad H) : k_H g ad (set_f_c t (va_up (f_c t) k v)) H := by
  subst hx; rw [k_fnI] at h; exact k_to (ks_f_c g ad t _) rfl h
theorem ks_f_lf (g : k_g) (ad : k_AD) (t : k_T) (v : Nat → Nat) : ∀ a b, ¬ (a = 3 ∧ b = 0) → k_ct g ad (set_f_lf t v) a b = k_ct g ad t a b := by
  intro a b h
  match a with
  | 0 => rfl
  | 1 => rfl
  | 2 => rfl
  | 3 => match b with | 0 => exact absurd ⟨rfl, rfl⟩ h | b + 1 => rfl
  | 4 => rfl
  | 5 => rfl
  | 6 => rfl
  | 7 => rfl
  | 8 => rfl
  | 9 => rfl
  | 10 => rfl
  | 11 => rfl
  | 12 => rfl
  | 13 => rfl
  | 14 => rfl
  | 15 => rfl
  | 16 => rfl
  | 17 => rfl
  | 18 => rfl
  | 19 => rfl
  | 20 => rfl
  | 21 => rfl
  | 22 => rfl
  | 23 => rfl
  | 24 => rfl
  | 25 => rfl
  | 26 => rfl
  | _ + 27 => rfl
theorem kt_f_lf {g : k_g} {ad : k_AD} {t : k_T} {H : Heap} (k : Nat) (v : Nat) {x : Int32} (hx : x = nI v) (h : k_Wd g (k_up (k_ct g ad t) 3 0 (.inl (g.2.1 0, 300, .inl (upd (fun j => nI (f_lf t j)) k x)))) ad H) : k_H g ad (set_f_lf t (va_up (f_lf t) k v)) H := by
  subst hx; rw [k_fnN] at h; exact k_to (ks_f_lf g ad t _) rfl h
theorem ks_f_lt (g : k_g) (ad : k_AD) (t : k_T) (v : Nat → Int32) : ∀ a b, ¬ (a = 4 ∧ b = 0) → k_ct g ad (set_f_lt t v) a b = k_ct g ad t a b := by
  intro a b h
  match a with
  | 0 => rfl
  | 1 => rfl
  | 2 => rfl
  | 3 => rfl
  | 4 => match b with | 0 => exact absurd ⟨rfl, rfl⟩ h | b + 1 => rfl
  | 5 => rfl
  | 6 => rfl
  | 7 => rfl
  | 8 => rfl
  | 9 => rfl
  | 10 => rfl
  | 11 => rfl
  | 12 => rfl
  | 13 => rfl
  | 14 => rfl
  | 15 => rfl
  | 16 => rfl
  | 17 => rfl
  | 18 => rfl
  | 19 => rfl
  | 20 => rfl
  | 21 => rfl
  | 22 => rfl
  | 23 => rfl
  | 24 => rfl
  | 25 => rfl
  | 26 => rfl
  | _ + 27 => rfl
theorem kt_f_lt {g : k_g} {ad : k_AD} {t : k_T} {H : Heap} (k : Nat) (v : Int32) {x : Int32} (hx : x = v) (h : k_Wd g (k_up (k_ct g ad t) 4 0 (.inl (g.2.1 0, 300, .inl (upd (f_lt t) k x)))) ad H) : k_H g ad (set_f_lt t (va_up (f_lt t) k v)) H := by
  subst hx; rw [k_fnI] at h; exact k_to (ks_f_lt g ad t _) rfl h
theorem ks_s_md (g : k_g) (ad : k_AD) (t : k_T) (v : Nat) : ∀ a b, ¬ (a = 5 ∧ b = 0) → k_ct g ad (set_s_md t v) a b = k_ct g ad t a b := by
  intro a b h
  match a with
  | 0 => rfl
  | 1 => rfl
  | 2 => rfl
  | 3 => rfl
  | 4 => rfl
  | 5 => match b with | 0 => exact absurd ⟨rfl, rfl⟩ h | b + 1 => rfl
  | 6 => rfl
  | 7 => rfl
  | 8 => rfl
  | 9 => rfl
  | 10 => rfl
  | 11 => rfl
  | 12 => rfl
  | 13 => rfl
  | 14 => rfl
  | 15 => rfl
  | 16 => rfl
  | 17 => rfl
  | 18 => rfl
  | 19 => rfl
  | 20 => rfl
  | 21 => rfl
  | 22 => rfl
  | 23 => rfl
  | 24 => rfl
  | 25 => rfl
  | 26 => rfl
  | _ + 27 => rfl
theorem kt_s_md {g : k_g} {ad : k_AD} {t : k_T} {H : Heap} (v : Nat) {x : Int32} (hx : x = nI v) (h : k_Wd g (k_up (k_ct g ad t) 5 0 (.inr (3, [.ref (ad 6 0), .int x, .int (nI (s_r1 t)), .int (nI (s_r2 t)), .int (nI (s_r3 t))]))) ad H) : k_H g ad (set_s_md t v) H := by
  subst hx; exact k_to (ks_s_md g ad t v) rfl h
theorem ks_s_r1 (g : k_g) (ad : k_AD) (t : k_T) (v : Nat) : ∀ a b, ¬ (a = 5 ∧ b = 0) → k_ct g ad (set_s_r1 t v) a b = k_ct g ad t a b := by
  intro a b h
  match a with
  | 0 => rfl
  | 1 => rfl
  | 2 => rfl
  | 3 => rfl
  | 4 => rfl
  | 5 => match b with | 0 => exact absurd ⟨rfl, rfl⟩ h | b + 1 => rfl
  | 6 => rfl
  | 7 => rfl
  | 8 => rfl
  | 9 => rfl
  | 10 => rfl
  | 11 => rfl
  | 12 => rfl
  | 13 => rfl
  | 14 => rfl
  | 15 => rfl
  | 16 => rfl
  | 17 => rfl
  | 18 => rfl
  | 19 => rfl
  | 20 => rfl
  | 21 => rfl
  | 22 => rfl
  | 23 => rfl
  | 24 => rfl
  | 25 => rfl
  | 26 => rfl
  | _ + 27 => rfl
theorem kt_s_r1 {g : k_g} {ad : k_AD} {t : k_T} {H : Heap} (v : Nat) {x : Int32} (hx : x = nI v) (h : k_Wd g (k_up (k_ct g ad t) 5 0 (.inr (3, [.ref (ad 6 0), .int (nI (s_md t)), .int x, .int (nI (s_r2 t)), .int (nI (s_r3 t))]))) ad H) : k_H g ad (set_s_r1 t v) H := by
  subst hx; exact k_to (ks_s_r1 g ad t v) rfl h
theorem ks_s_r2 (g : k_g) (ad : k_AD) (t : k_T) (v : Nat) : ∀ a b, ¬ (a = 5 ∧ b = 0) → k_ct g ad (set_s_r2 t v) a b = k_ct g ad t a b := by
  intro a b h
  match a with
  | 0 => rfl
  | 1 => rfl
  | 2 => rfl
  | 3 => rfl
  | 4 => rfl
  | 5 => match b with | 0 => exact absurd ⟨rfl, rfl⟩ h | b + 1 => rfl
  | 6 => rfl
  | 7 => rfl
  | 8 => rfl
  | 9 => rfl
  | 10 => rfl
  | 11 => rfl
  | 12 => rfl
  | 13 => rfl
  | 14 => rfl
  | 15 => rfl
  | 16 => rfl
  | 17 => rfl
  | 18 => rfl
  | 19 => rfl
  | 20 => rfl
  | 21 => rfl
  | 22 => rfl
  | 23 => rfl
  | 24 => rfl
  | 25 => rfl
  | 26 => rfl
  | _ + 27 => rfl
theorem kt_s_r2 {g : k_g} {ad : k_AD} {t : k_T} {H : Heap} (v : Nat) {x : Int32} (hx : x = nI v) (h : k_Wd g (k_up (k_ct g ad t) 5 0 (.inr (3, [.ref (ad 6 0), .int (nI (s_md t)), .int (nI (s_r1 t)), .int x, .int (nI (s_r3 t))]))) ad H) : k_H g ad (set_s_r2 t v) H := by
  subst hx; exact k_to (ks_s_r2 g ad t v) rfl h
theorem ks_s_r3 (g : k_g) (ad : k_AD) (t : k_T) (v : Nat) : ∀ a b, ¬ (a = 5 ∧ b = 0) → k_ct g ad (set_s_r3 t v) a b = k_ct g ad t a b := by
  intro a b h
  match a with
  | 0 => rfl
  | 1 => rfl
  | 2 => rfl
  | 3 => rfl
  | 4 => rfl
  | 5 => match b with | 0 => exact absurd ⟨rfl, rfl⟩ h | b + 1 => rfl
  | 6 => rfl
  | 7 => rfl
  | 8 => rfl
  | 9 => rfl
  | 10 => rfl
  | 11 => rfl
  | 12 => rfl
  | 13 => rfl
  | 14 => rfl
  | 15 => rfl
  | 16 => rfl
  | 17 => rfl
  | 18 => rfl
  | 19 => rfl
  | 20 => rfl
  | 21 => rfl
  | 22 => rfl
  | 23 => rfl
  | 24 => rfl
  | 25 => rfl
  | 26 => rfl
  | _ + 27 => rfl
theorem kt_s_r3 {g : k_g} {ad : k_AD} {t : k_T} {H : Heap} (v : Nat) {x : Int32} (hx : x = nI v) (h : k_Wd g (k_up (k_ct g ad t) 5 0 (.inr (3, [.ref (ad 6 0), .int (nI (s_md t)), .int (nI (s_r1 t)), .int (nI (s_r2 t)), .int x]))) ad H) : k_H g ad (set_s_r3 t v) H := by
  subst hx; exact k_to (ks_s_r3 g ad t v) rfl h
theorem ks_s_th (g : k_g) (ad : k_AD) (t : k_T) (v : Nat → Bool) : ∀ a b, ¬ (a = 6 ∧ b = 0) → k_ct g ad (set_s_th t v) a b = k_ct g ad t a b := by
  intro a b h
  match a with
  | 0 => rfl
  | 1 => rfl
  | 2 => rfl
  | 3 => rfl
  | 4 => rfl
  | 5 => rfl
  | 6 => match b with | 0 => exact absurd ⟨rfl, rfl⟩ h | b + 1 => rfl
  | 7 => rfl
  | 8 => rfl
  | 9 => rfl
  | 10 => rfl
  | 11 => rfl
  | 12 => rfl
  | 13 => rfl
  | 14 => rfl
  | 15 => rfl
  | 16 => rfl
  | 17 => rfl
  | 18 => rfl
  | 19 => rfl
  | 20 => rfl
  | 21 => rfl
  | 22 => rfl
  | 23 => rfl
  | 24 => rfl
  | 25 => rfl
  | 26 => rfl
  | _ + 27 => rfl
theorem kt_s_th {g : k_g} {ad : k_AD} {t : k_T} {H : Heap} (k : Nat) (h : k_Wd g (k_up (k_ct g ad t) 6 0 (.inl (g.2.1 3, 60, .inr (.inr (.inr (.inr (va_up (fun j => if s_th t j = true then some (ad 25 j) else none) k (some (ad 25 k))))))))) ad H) : k_H g ad (set_s_th t (va_up (s_th t) k true)) H := by
  rw [k_fnR] at h; exact k_to (ks_s_th g ad t _) rfl h
theorem kt_s_th0 {g : k_g} {ad : k_AD} {t : k_T} {H : Heap} (k : Nat) (h : k_Wd g (k_up (k_ct g ad t) 6 0 (.inl (g.2.1 3, 60, .inr (.inr (.inr (.inr (va_up (fun j => if s_th t j = true then some (ad 25 j) else none) k none))))))) ad H) : k_H g ad (set_s_th t (va_up (s_th t) k false)) H := by
  rw [k_fnR0] at h; exact k_to (ks_s_th g ad t _) rfl h
theorem ks_r_p (g : k_g) (ad : k_AD) (t : k_T) (v : Nat → Nat) : ∀ a b, ¬ (a = 8 ∧ b = 0) → k_ct g ad (set_r_p t v) a b = k_ct g ad t a b := by
  intro a b h
  match a with
  | 0 => rfl
  | 1 => rfl
  | 2 => rfl
  | 3 => rfl
  | 4 => rfl
  | 5 => rfl
  | 6 => rfl
  | 7 => rfl
  | 8 => match b with | 0 => exact absurd ⟨rfl, rfl⟩ h | b + 1 => rfl
  | 9 => rfl
  | 10 => rfl
  | 11 => rfl
  | 12 => rfl
  | 13 => rfl
  | 14 => rfl
  | 15 => rfl
  | 16 => rfl
  | 17 => rfl
  | 18 => rfl
  | 19 => rfl
  | 20 => rfl
  | 21 => rfl
  | 22 => rfl
  | 23 => rfl
  | 24 => rfl
  | 25 => rfl
  | 26 => rfl
  | _ + 27 => rfl
theorem kt_r_p {g : k_g} {ad : k_AD} {t : k_T} {H : Heap} (k : Nat) (v : Nat) {x : Int32} (hx : x = nI v) (h : k_Wd g (k_up (k_ct g ad t) 8 0 (.inl (g.2.1 0, 365, .inl (upd (fun j => nI (r_p t j)) k x)))) ad H) : k_H g ad (set_r_p t (va_up (r_p t) k v)) H := by
  subst hx; rw [k_fnN] at h; exact k_to (ks_r_p g ad t _) rfl h
theorem ks_m_n (g : k_g) (ad : k_AD) (t : k_T) (v : Nat) : ∀ a b, ¬ (a = 9 ∧ b = 0) → k_ct g ad (set_m_n t v) a b = k_ct g ad t a b := by
  intro a b h
  match a with
  | 0 => rfl
  | 1 => rfl
  | 2 => rfl
  | 3 => rfl
  | 4 => rfl
  | 5 => rfl
  | 6 => rfl
  | 7 => rfl
  | 8 => rfl
  | 9 => match b with | 0 => exact absurd ⟨rfl, rfl⟩ h | b + 1 => rfl
  | 10 => rfl
  | 11 => rfl
  | 12 => rfl
  | 13 => rfl
  | 14 => rfl
  | 15 => rfl
  | 16 => rfl
  | 17 => rfl
  | 18 => rfl
  | 19 => rfl
  | 20 => rfl
  | 21 => rfl
  | 22 => rfl
  | 23 => rfl
  | 24 => rfl
  | 25 => rfl
  | 26 => rfl
  | _ + 27 => rfl
theorem kt_m_n {g : k_g} {ad : k_AD} {t : k_T} {H : Heap} (v : Nat) {x : Int32} (hx : x = nI v) (h : k_Wd g (k_up (k_ct g ad t) 9 0 (.inr (5, [.ref (ad 10 0), .ref (ad 11 0), .int x, .int (nI (m_d t)), .ref (ad 12 0), .ref (ad 13 0), .ref (ad 14 0), .ref (ad 15 0), .ref (ad 16 0), .ref (ad 17 0), .ref (ad 18 0), .ref (ad 19 0), .int (nI (m_md t)), .int (nI (m_r1 t)), .int (nI (m_r2 t)), .int (nI (m_r3 t)), .ref (ad 20 0), .ref (ad 21 0), .ref (ad 22 0), .ref (ad 23 0), .int (nI (m_l t))]))) ad H) : k_H g ad (set_m_n t v) H := by
  subst hx; exact k_to (ks_m_n g ad t v) rfl h
theorem ks_m_d (g : k_g) (ad : k_AD) (t : k_T) (v : Nat) : ∀ a b, ¬ (a = 9 ∧ b = 0) → k_ct g ad (set_m_d t v) a b = k_ct g ad t a b := by
  intro a b h
  match a with
  | 0 => rfl
  | 1 => rfl
  | 2 => rfl
  | 3 => rfl
  | 4 => rfl
  | 5 => rfl
  | 6 => rfl
  | 7 => rfl
  | 8 => rfl
  | 9 => match b with | 0 => exact absurd ⟨rfl, rfl⟩ h | b + 1 => rfl
  | 10 => rfl
  | 11 => rfl
  | 12 => rfl
  | 13 => rfl
  | 14 => rfl
  | 15 => rfl
  | 16 => rfl
  | 17 => rfl
  | 18 => rfl
  | 19 => rfl
  | 20 => rfl
  | 21 => rfl
  | 22 => rfl
  | 23 => rfl
  | 24 => rfl
  | 25 => rfl
  | 26 => rfl
  | _ + 27 => rfl
theorem kt_m_d {g : k_g} {ad : k_AD} {t : k_T} {H : Heap} (v : Nat) {x : Int32} (hx : x = nI v) (h : k_Wd g (k_up (k_ct g ad t) 9 0 (.inr (5, [.ref (ad 10 0), .ref (ad 11 0), .int (nI (m_n t)), .int x, .ref (ad 12 0), .ref (ad 13 0), .ref (ad 14 0), .ref (ad 15 0), .ref (ad 16 0), .ref (ad 17 0), .ref (ad 18 0), .ref (ad 19 0), .int (nI (m_md t)), .int (nI (m_r1 t)), .int (nI (m_r2 t)), .int (nI (m_r3 t)), .ref (ad 20 0), .ref (ad 21 0), .ref (ad 22 0), .ref (ad 23 0), .int (nI (m_l t))]))) ad H) : k_H g ad (set_m_d t v) H := by
  subst hx; exact k_to (ks_m_d g ad t v) rfl h
theorem ks_m_md (g : k_g) (ad : k_AD) (t : k_T) (v : Nat) : ∀ a b, ¬ (a = 9 ∧ b = 0) → k_ct g ad (set_m_md t v) a b = k_ct g ad t a b := by
  intro a b h
  match a with
  | 0 => rfl
  | 1 => rfl
  | 2 => rfl
  | 3 => rfl
  | 4 => rfl
  | 5 => rfl
  | 6 => rfl
  | 7 => rfl
  | 8 => rfl
  | 9 => match b with | 0 => exact absurd ⟨rfl, rfl⟩ h | b + 1 => rfl
  | 10 => rfl
  | 11 => rfl
  | 12 => rfl
  | 13 => rfl
  | 14 => rfl
  | 15 => rfl
  | 16 => rfl
  | 17 => rfl
  | 18 => rfl
  | 19 => rfl
  | 20 => rfl
  | 21 => rfl
  | 22 => rfl
  | 23 => rfl
  | 24 => rfl
  | 25 => rfl
  | 26 => rfl
  | _ + 27 => rfl
theorem kt_m_md {g : k_g} {ad : k_AD} {t : k_T} {H : Heap} (v : Nat) {x : Int32} (hx : x = nI v) (h : k_Wd g (k_up (k_ct g ad t) 9 0 (.inr (5, [.ref (ad 10 0), .ref (ad 11 0), .int (nI (m_n t)), .int (nI (m_d t)), .ref (ad 12 0), .ref (ad 13 0), .ref (ad 14 0), .ref (ad 15 0), .ref (ad 16 0), .ref (ad 17 0), .ref (ad 18 0), .ref (ad 19 0), .int x, .int (nI (m_r1 t)), .int (nI (m_r2 t)), .int (nI (m_r3 t)), .ref (ad 20 0), .ref (ad 21 0), .ref (ad 22 0), .ref (ad 23 0), .int (nI (m_l t))]))) ad H) : k_H g ad (set_m_md t v) H := by
  subst hx; exact k_to (ks_m_md g ad t v) rfl h
theorem ks_m_r1 (g : k_g) (ad : k_AD) (t : k_T) (v : Nat) : ∀ a b, ¬ (a = 9 ∧ b = 0) → k_ct g ad (set_m_r1 t v) a b = k_ct g ad t a b := by
  intro a b h
  match a with
  | 0 => rfl
  | 1 => rfl
  | 2 => rfl
  | 3 => rfl
  | 4 => rfl
  | 5 => rfl
  | 6 => rfl
  | 7 => rfl
  | 8 => rfl
  | 9 => match b with | 0 => exact absurd ⟨rfl, rfl⟩ h | b + 1 => rfl
  | 10 => rfl
  | 11 => rfl
  | 12 => rfl
  | 13 => rfl
  | 14 => rfl
  | 15 => rfl
  | 16 => rfl
  | 17 => rfl
  | 18 => rfl
  | 19 => rfl
  | 20 => rfl
  | 21 => rfl
  | 22 => rfl
  | 23 => rfl
  | 24 => rfl
  | 25 => rfl
  | 26 => rfl
  | _ + 27 => rfl
theorem kt_m_r1 {g : k_g} {ad : k_AD} {t : k_T} {H : Heap} (v : Nat) {x : Int32} (hx : x = nI v) (h : k_Wd g (k_up (k_ct g ad t) 9 0 (.inr (5, [.ref (ad 10 0), .ref (ad 11 0), .int (nI (m_n t)), .int (nI (m_d t)), .ref (ad 12 0), .ref (ad 13 0), .ref (ad 14 0), .ref (ad 15 0), .ref (ad 16 0), .ref (ad 17 0), .ref (ad 18 0), .ref (ad 19 0), .int (nI (m_md t)), .int x, .int (nI (m_r2 t)), .int (nI (m_r3 t)), .ref (ad 20 0), .ref (ad 21 0), .ref (ad 22 0), .ref (ad 23 0), .int (nI (m_l t))]))) ad H) : k_H g ad (set_m_r1 t v) H := by
  subst hx; exact k_to (ks_m_r1 g ad t v) rfl h
theorem ks_m_r2 (g : k_g) (ad : k_AD) (t : k_T) (v : Nat) : ∀ a b, ¬ (a = 9 ∧ b = 0) → k_ct g ad (set_m_r2 t v) a b = k_ct g ad t a b := by
  intro a b h
  match a with
  | 0 => rfl
  | 1 => rfl
  | 2 => rfl
  | 3 => rfl
  | 4 => rfl
  | 5 => rfl
  | 6 => rfl
  | 7 => rfl
  | 8 => rfl
  | 9 => match b with | 0 => exact absurd ⟨rfl, rfl⟩ h | b + 1 => rfl
  | 10 => rfl
  | 11 => rfl
  | 12 => rfl
  | 13 => rfl
  | 14 => rfl
  | 15 => rfl
  | 16 => rfl
  | 17 => rfl
  | 18 => rfl
  | 19 => rfl
  | 20 => rfl
  | 21 => rfl
  | 22 => rfl
  | 23 => rfl
  | 24 => rfl
  | 25 => rfl
  | 26 => rfl
  | _ + 27 => rfl
theorem kt_m_r2 {g : k_g} {ad : k_AD} {t : k_T} {H : Heap} (v : Nat) {x : Int32} (hx : x = nI v) (h : k_Wd g (k_up (k_ct g ad t) 9 0 (.inr (5, [.ref (ad 10 0), .ref (ad 11 0), .int (nI (m_n t)), .int (nI (m_d t)), .ref (ad 12 0), .ref (ad 13 0), .ref (ad 14 0), .ref (ad 15 0), .ref (ad 16 0), .ref (ad 17 0), .ref (ad 18 0), .ref (ad 19 0), .int (nI (m_md t)), .int (nI (m_r1 t)), .int x, .int (nI (m_r3 t)), .ref (ad 20 0), .ref (ad 21 0), .ref (ad 22 0), .ref (ad 23 0), .int (nI (m_l t))]))) ad H) : k_H g ad (set_m_r2 t v) H := by
  subst hx; exact k_to (ks_m_r2 g ad t v) rfl h
theorem ks_m_r3 (g : k_g) (ad : k_AD) (t : k_T) (v : Nat) : ∀ a b, ¬ (a = 9 ∧ b = 0) → k_ct g ad (set_m_r3 t v) a b = k_ct g ad t a b := by
  intro a b h
  match a with
  | 0 => rfl
  | 1 => rfl
  | 2 => rfl
  | 3 => rfl
  | 4 => rfl
  | 5 => rfl
  | 6 => rfl
  | 7 => rfl
  | 8 => rfl
  | 9 => match b with | 0 => exact absurd ⟨rfl, rfl⟩ h | b + 1 => rfl
  | 10 => rfl
  | 11 => rfl
  | 12 => rfl
  | 13 => rfl
  | 14 => rfl
  | 15 => rfl
  | 16 => rfl
  | 17 => rfl
  | 18 => rfl
  | 19 => rfl
  | 20 => rfl
  | 21 => rfl
  | 22 => rfl
  | 23 => rfl
  | 24 => rfl
  | 25 => rfl
  | 26 => rfl
  | _ + 27 => rfl
theorem kt_m_r3 {g : k_g} {ad : k_AD} {t : k_T} {H : Heap} (v : Nat) {x : Int32} (hx : x = nI v) (h : k_Wd g (k_up (k_ct g ad t) 9 0 (.inr (5, [.ref (ad 10 0), .ref (ad 11 0), .int (nI (m_n t)), .int (nI (m_d t)), .ref (ad 12 0), .ref (ad 13 0), .ref (ad 14 0), .ref (ad 15 0), .ref (ad 16 0), .ref (ad 17 0), .ref (ad 18 0), .ref (ad 19 0), .int (nI (m_md t)), .int (nI (m_r1 t)), .int (nI (m_r2 t)), .int x, .ref (ad 20 0), .ref (ad 21 0), .ref (ad 22 0), .ref (ad 23 0), .int (nI (m_l t))]))) ad H) : k_H g ad (set_m_r3 t v) H := by
  subst hx; exact k_to (ks_m_r3 g ad t v) rfl h
theorem ks_m_l (g : k_g) (ad : k_AD) (t : k_T) (v : Nat) : ∀ a b, ¬ (a = 9 ∧ b = 0) → k_ct g ad (set_m_l t v) a b = k_ct g ad t a b := by
  intro a b h
  match a with
  | 0 => rfl
  | 1 => rfl
  | 2 => rfl
  | 3 => rfl
  | 4 => rfl
  | 5 => rfl
  | 6 => rfl
  | 7 => rfl
  | 8 => rfl
  | 9 => match b with | 0 => exact absurd ⟨rfl, rfl⟩ h | b + 1 => rfl
  | 10 => rfl
  | 11 => rfl
  | 12 => rfl
  | 13 => rfl
  | 14 => rfl
  | 15 => rfl
  | 16 => rfl
  | 17 => rfl
  | 18 => rfl
  | 19 => rfl
  | 20 => rfl
  | 21 => rfl
  | 22 => rfl
  | 23 => rfl
  | 24 => rfl
  | 25 => rfl
  | 26 => rfl
  | _ + 27 => rfl
theorem kt_m_l {g : k_g} {ad : k_AD} {t : k_T} {H : Heap} (v : Nat) {x : Int32} (hx : x = nI v) (h : k_Wd g (k_up (k_ct g ad t) 9 0 (.inr (5, [.ref (ad 10 0), .ref (ad 11 0), .int (nI (m_n t)), .int (nI (m_d t)), .ref (ad 12 0), .ref (ad 13 0), .ref (ad 14 0), .ref (ad 15 0), .ref (ad 16 0), .ref (ad 17 0), .ref (ad 18 0), .ref (ad 19 0), .int (nI (m_md t)), .int (nI (m_r1 t)), .int (nI (m_r2 t)), .int (nI (m_r3 t)), .ref (ad 20 0), .ref (ad 21 0), .ref (ad 22 0), .ref (ad 23 0), .int x]))) ad H) : k_H g ad (set_m_l t v) H := by
  subst hx; exact k_to (ks_m_l g ad t v) rfl h
theorem ks_m_c (g : k_g) (ad : k_AD) (t : k_T) (v : Nat → Int32) : ∀ a b, ¬ (a = 10 ∧ b = 0) → k_ct g ad (set_m_c t v) a b = k_ct g ad t a b := by
  intro a b h
  match a with
  | 0 => rfl
  | 1 => rfl
  | 2 => rfl
  | 3 => rfl
  | 4 => rfl
  | 5 => rfl
  | 6 => rfl
  | 7 => rfl
  | 8 => rfl
  | 9 => rfl
  | 10 => match b with | 0 => exact absurd ⟨rfl, rfl⟩ h | b + 1 => rfl
  | 11 => rfl
  | 12 => rfl
  | 13 => rfl
  | 14 => rfl
  | 15 => rfl
  | 16 => rfl
  | 17 => rfl
  | 18 => rfl
  | 19 => rfl
  | 20 => rfl
  | 21 => rfl
  | 22 => rfl
  | 23 => rfl
  | 24 => rfl
  | 25 => rfl
  | 26 => rfl
  | _ + 27 => rfl
theorem kt_m_c {g : k_g} {ad : k_AD} {t : k_T} {H : Heap} (k : Nat) (v : Int32) {x : Int32} (hx : x = v) (h : k_Wd g (k_up (k_ct g ad t) 10 0 (.inl (g.2.1 0, 10, .inl (upd (m_c t) k x)))) ad H) : k_H g ad (set_m_c t (va_up (m_c t) k v)) H := by
  subst hx; rw [k_fnI] at h; exact k_to (ks_m_c g ad t _) rfl h
theorem ks_m_ch (g : k_g) (ad : k_AD) (t : k_T) (v : Nat → Nat) : ∀ a b, ¬ (a = 11 ∧ b = 0) → k_ct g ad (set_m_ch t v) a b = k_ct g ad t a b := by
  intro a b h
  match a with
  | 0 => rfl
  | 1 => rfl
  | 2 => rfl
  | 3 => rfl
  | 4 => rfl
  | 5 => rfl
  | 6 => rfl
  | 7 => rfl
  | 8 => rfl
  | 9 => rfl
  | 10 => rfl
  | 11 => match b with | 0 => exact absurd ⟨rfl, rfl⟩ h | b + 1 => rfl
  | 12 => rfl
  | 13 => rfl
  | 14 => rfl
  | 15 => rfl
  | 16 => rfl
  | 17 => rfl
  | 18 => rfl
  | 19 => rfl
  | 20 => rfl
  | 21 => rfl
  | 22 => rfl
  | 23 => rfl
  | 24 => rfl
  | 25 => rfl
  | 26 => rfl
  | _ + 27 => rfl
theorem kt_m_ch {g : k_g} {ad : k_AD} {t : k_T} {H : Heap} (k : Nat) (v : Nat) {x : Int32} (hx : x = nI v) (h : k_Wd g (k_up (k_ct g ad t) 11 0 (.inl (g.2.1 0, 10, .inl (upd (fun j => nI (m_ch t j)) k x)))) ad H) : k_H g ad (set_m_ch t (va_up (m_ch t) k v)) H := by
  subst hx; rw [k_fnN] at h; exact k_to (ks_m_ch g ad t _) rfl h
theorem ks_m_on (g : k_g) (ad : k_AD) (t : k_T) (v : Nat → Nat) : ∀ a b, ¬ (a = 12 ∧ b = 0) → k_ct g ad (set_m_on t v) a b = k_ct g ad t a b := by
  intro a b h
  match a with
  | 0 => rfl
  | 1 => rfl
  | 2 => rfl
  | 3 => rfl
  | 4 => rfl
  | 5 => rfl
  | 6 => rfl
  | 7 => rfl
  | 8 => rfl
  | 9 => rfl
  | 10 => rfl
  | 11 => rfl
  | 12 => match b with | 0 => exact absurd ⟨rfl, rfl⟩ h | b + 1 => rfl
  | 13 => rfl
  | 14 => rfl
  | 15 => rfl
  | 16 => rfl
  | 17 => rfl
  | 18 => rfl
  | 19 => rfl
  | 20 => rfl
  | 21 => rfl
  | 22 => rfl
  | 23 => rfl
  | 24 => rfl
  | 25 => rfl
  | 26 => rfl
  | _ + 27 => rfl
theorem kt_m_on {g : k_g} {ad : k_AD} {t : k_T} {H : Heap} (k : Nat) (v : Nat) {x : Int32} (hx : x = nI v) (h : k_Wd g (k_up (k_ct g ad t) 12 0 (.inl (g.2.1 0, 60, .inl (upd (fun j => nI (m_on t j)) k x)))) ad H) : k_H g ad (set_m_on t (va_up (m_on t) k v)) H := by
  subst hx; rw [k_fnN] at h; exact k_to (ks_m_on g ad t _) rfl h
theorem ks_m_b (g : k_g) (ad : k_AD) (t : k_T) (v : Nat → Option Nat) : ∀ a b, ¬ (a = 13 ∧ b = 0) → k_ct g ad (set_m_b t v) a b = k_ct g ad t a b := by
  intro a b h
  match a with
  | 0 => rfl
  | 1 => rfl
  | 2 => rfl
  | 3 => rfl
  | 4 => rfl
  | 5 => rfl
  | 6 => rfl
  | 7 => rfl
  | 8 => rfl
  | 9 => rfl
  | 10 => rfl
  | 11 => rfl
  | 12 => rfl
  | 13 => match b with | 0 => exact absurd ⟨rfl, rfl⟩ h | b + 1 => rfl
  | 14 => rfl
  | 15 => rfl
  | 16 => rfl
  | 17 => rfl
  | 18 => rfl
  | 19 => rfl
  | 20 => rfl
  | 21 => rfl
  | 22 => rfl
  | 23 => rfl
  | 24 => rfl
  | 25 => rfl
  | 26 => rfl
  | _ + 27 => rfl
theorem kt_m_b {g : k_g} {ad : k_AD} {t : k_T} {H : Heap} (k : Nat) (v : Option Nat) {x : Int32} (hx : x = kO v) (h : k_Wd g (k_up (k_ct g ad t) 13 0 (.inl (g.2.1 0, 60, .inl (upd (fun j => kO (m_b t j)) k x)))) ad H) : k_H g ad (set_m_b t (va_up (m_b t) k v)) H := by
  subst hx; rw [k_fnO] at h; exact k_to (ks_m_b g ad t _) rfl h
theorem ks_m_sz (g : k_g) (ad : k_AD) (t : k_T) (v : Nat → Nat) : ∀ a b, ¬ (a = 14 ∧ b = 0) → k_ct g ad (set_m_sz t v) a b = k_ct g ad t a b := by
  intro a b h
  match a with
  | 0 => rfl
  | 1 => rfl
  | 2 => rfl
  | 3 => rfl
  | 4 => rfl
  | 5 => rfl
  | 6 => rfl
  | 7 => rfl
  | 8 => rfl
  | 9 => rfl
  | 10 => rfl
  | 11 => rfl
  | 12 => rfl
  | 13 => rfl
  | 14 => match b with | 0 => exact absurd ⟨rfl, rfl⟩ h | b + 1 => rfl
  | 15 => rfl
  | 16 => rfl
  | 17 => rfl
  | 18 => rfl
  | 19 => rfl
  | 20 => rfl
  | 21 => rfl
  | 22 => rfl
  | 23 => rfl
  | 24 => rfl
  | 25 => rfl
  | 26 => rfl
  | _ + 27 => rfl
theorem kt_m_sz {g : k_g} {ad : k_AD} {t : k_T} {H : Heap} (k : Nat) (v : Nat) {x : Int32} (hx : x = nI v) (h : k_Wd g (k_up (k_ct g ad t) 14 0 (.inl (g.2.1 0, 60, .inl (upd (fun j => nI (m_sz t j)) k x)))) ad H) : k_H g ad (set_m_sz t (va_up (m_sz t) k v)) H := by
  subst hx; rw [k_fnN] at h; exact k_to (ks_m_sz g ad t _) rfl h
theorem ks_m_at (g : k_g) (ad : k_AD) (t : k_T) (v : Nat → Nat) : ∀ a b, ¬ (a = 15 ∧ b = 0) → k_ct g ad (set_m_at t v) a b = k_ct g ad t a b := by
  intro a b h
  match a with
  | 0 => rfl
  | 1 => rfl
  | 2 => rfl
  | 3 => rfl
  | 4 => rfl
  | 5 => rfl
  | 6 => rfl
  | 7 => rfl
  | 8 => rfl
  | 9 => rfl
  | 10 => rfl
  | 11 => rfl
  | 12 => rfl
  | 13 => rfl
  | 14 => rfl
  | 15 => match b with | 0 => exact absurd ⟨rfl, rfl⟩ h | b + 1 => rfl
  | 16 => rfl
  | 17 => rfl
  | 18 => rfl
  | 19 => rfl
  | 20 => rfl
  | 21 => rfl
  | 22 => rfl
  | 23 => rfl
  | 24 => rfl
  | 25 => rfl
  | 26 => rfl
  | _ + 27 => rfl
theorem kt_m_at {g : k_g} {ad : k_AD} {t : k_T} {H : Heap} (k : Nat) (v : Nat) {x : Int32} (hx : x = nI v) (h : k_Wd g (k_up (k_ct g ad t) 15 0 (.inl (g.2.1 0, 60, .inl (upd (fun j => nI (m_at t j)) k x)))) ad H) : k_H g ad (set_m_at t (va_up (m_at t) k v)) H := by
  subst hx; rw [k_fnN] at h; exact k_to (ks_m_at g ad t _) rfl h
theorem ks_m_k (g : k_g) (ad : k_AD) (t : k_T) (v : Nat → Int32) : ∀ a b, ¬ (a = 16 ∧ b = 0) → k_ct g ad (set_m_k t v) a b = k_ct g ad t a b := by
  intro a b h
  match a with
  | 0 => rfl
  | 1 => rfl
  | 2 => rfl
  | 3 => rfl
  | 4 => rfl
  | 5 => rfl
  | 6 => rfl
  | 7 => rfl
  | 8 => rfl
  | 9 => rfl
  | 10 => rfl
  | 11 => rfl
  | 12 => rfl
  | 13 => rfl
  | 14 => rfl
  | 15 => rfl
  | 16 => match b with | 0 => exact absurd ⟨rfl, rfl⟩ h | b + 1 => rfl
  | 17 => rfl
  | 18 => rfl
  | 19 => rfl
  | 20 => rfl
  | 21 => rfl
  | 22 => rfl
  | 23 => rfl
  | 24 => rfl
  | 25 => rfl
  | 26 => rfl
  | _ + 27 => rfl
theorem kt_m_k {g : k_g} {ad : k_AD} {t : k_T} {H : Heap} (k : Nat) (v : Int32) {x : Int32} (hx : x = v) (h : k_Wd g (k_up (k_ct g ad t) 16 0 (.inl (g.2.1 0, 600, .inl (upd (m_k t) k x)))) ad H) : k_H g ad (set_m_k t (va_up (m_k t) k v)) H := by
  subst hx; rw [k_fnI] at h; exact k_to (ks_m_k g ad t _) rfl h
theorem ks_m_th (g : k_g) (ad : k_AD) (t : k_T) (v : Nat → Bool) : ∀ a b, ¬ (a = 17 ∧ b = 0) → k_ct g ad (set_m_th t v) a b = k_ct g ad t a b := by
  intro a b h
  match a with
  | 0 => rfl
  | 1 => rfl
  | 2 => rfl
  | 3 => rfl
  | 4 => rfl
  | 5 => rfl
  | 6 => rfl
  | 7 => rfl
  | 8 => rfl
  | 9 => rfl
  | 10 => rfl
  | 11 => rfl
  | 12 => rfl
  | 13 => rfl
  | 14 => rfl
  | 15 => rfl
  | 16 => rfl
  | 17 => match b with | 0 => exact absurd ⟨rfl, rfl⟩ h | b + 1 => rfl
  | 18 => rfl
  | 19 => rfl
  | 20 => rfl
  | 21 => rfl
  | 22 => rfl
  | 23 => rfl
  | 24 => rfl
  | 25 => rfl
  | 26 => rfl
  | _ + 27 => rfl
theorem kt_m_th {g : k_g} {ad : k_AD} {t : k_T} {H : Heap} (k : Nat) (v : Bool) {x : Int32} (hx : x = kb v) (h : k_Wd g (k_up (k_ct g ad t) 17 0 (.inl (g.2.1 1, 60, .inl (upd (fun j => kb (m_th t j)) k x)))) ad H) : k_H g ad (set_m_th t (va_up (m_th t) k v)) H := by
  subst hx; rw [k_fnB] at h; exact k_to (ks_m_th g ad t _) rfl h
theorem ks_m_dm (g : k_g) (ad : k_AD) (t : k_T) (v : Nat → Bool) : ∀ a b, ¬ (a = 18 ∧ b = 0) → k_ct g ad (set_m_dm t v) a b = k_ct g ad t a b := by
  intro a b h
  match a with
  | 0 => rfl
  | 1 => rfl
  | 2 => rfl
  | 3 => rfl
  | 4 => rfl
  | 5 => rfl
  | 6 => rfl
  | 7 => rfl
  | 8 => rfl
  | 9 => rfl
  | 10 => rfl
  | 11 => rfl
  | 12 => rfl
  | 13 => rfl
  | 14 => rfl
  | 15 => rfl
  | 16 => rfl
  | 17 => rfl
  | 18 => match b with | 0 => exact absurd ⟨rfl, rfl⟩ h | b + 1 => rfl
  | 19 => rfl
  | 20 => rfl
  | 21 => rfl
  | 22 => rfl
  | 23 => rfl
  | 24 => rfl
  | 25 => rfl
  | 26 => rfl
  | _ + 27 => rfl
theorem kt_m_dm {g : k_g} {ad : k_AD} {t : k_T} {H : Heap} (k : Nat) (v : Bool) {x : Int32} (hx : x = kb v) (h : k_Wd g (k_up (k_ct g ad t) 18 0 (.inl (g.2.1 1, 60, .inl (upd (fun j => kb (m_dm t j)) k x)))) ad H) : k_H g ad (set_m_dm t (va_up (m_dm t) k v)) H := by
  subst hx; rw [k_fnB] at h; exact k_to (ks_m_dm g ad t _) rfl h
theorem ks_m_pv (g : k_g) (ad : k_AD) (t : k_T) (v : Nat → Bool) : ∀ a b, ¬ (a = 19 ∧ b = 0) → k_ct g ad (set_m_pv t v) a b = k_ct g ad t a b := by
  intro a b h
  match a with
  | 0 => rfl
  | 1 => rfl
  | 2 => rfl
  | 3 => rfl
  | 4 => rfl
  | 5 => rfl
  | 6 => rfl
  | 7 => rfl
  | 8 => rfl
  | 9 => rfl
  | 10 => rfl
  | 11 => rfl
  | 12 => rfl
  | 13 => rfl
  | 14 => rfl
  | 15 => rfl
  | 16 => rfl
  | 17 => rfl
  | 18 => rfl
  | 19 => match b with | 0 => exact absurd ⟨rfl, rfl⟩ h | b + 1 => rfl
  | 20 => rfl
  | 21 => rfl
  | 22 => rfl
  | 23 => rfl
  | 24 => rfl
  | 25 => rfl
  | 26 => rfl
  | _ + 27 => rfl
theorem kt_m_pv {g : k_g} {ad : k_AD} {t : k_T} {H : Heap} (k : Nat) (v : Bool) {x : Int32} (hx : x = kb v) (h : k_Wd g (k_up (k_ct g ad t) 19 0 (.inl (g.2.1 1, 60, .inl (upd (fun j => kb (m_pv t j)) k x)))) ad H) : k_H g ad (set_m_pv t (va_up (m_pv t) k v)) H := by
  subst hx; rw [k_fnB] at h; exact k_to (ks_m_pv g ad t _) rfl h
theorem ks_m_pm (g : k_g) (ad : k_AD) (t : k_T) (v : Nat → Bool) : ∀ a b, ¬ (a = 20 ∧ b = 0) → k_ct g ad (set_m_pm t v) a b = k_ct g ad t a b := by
  intro a b h
  match a with
  | 0 => rfl
  | 1 => rfl
  | 2 => rfl
  | 3 => rfl
  | 4 => rfl
  | 5 => rfl
  | 6 => rfl
  | 7 => rfl
  | 8 => rfl
  | 9 => rfl
  | 10 => rfl
  | 11 => rfl
  | 12 => rfl
  | 13 => rfl
  | 14 => rfl
  | 15 => rfl
  | 16 => rfl
  | 17 => rfl
  | 18 => rfl
  | 19 => rfl
  | 20 => match b with | 0 => exact absurd ⟨rfl, rfl⟩ h | b + 1 => rfl
  | 21 => rfl
  | 22 => rfl
  | 23 => rfl
  | 24 => rfl
  | 25 => rfl
  | 26 => rfl
  | _ + 27 => rfl
theorem kt_m_pm {g : k_g} {ad : k_AD} {t : k_T} {H : Heap} (k : Nat) (v : Bool) {x : Int32} (hx : x = kb v) (h : k_Wd g (k_up (k_ct g ad t) 20 0 (.inl (g.2.1 1, 60, .inl (upd (fun j => kb (m_pm t j)) k x)))) ad H) : k_H g ad (set_m_pm t (va_up (m_pm t) k v)) H := by
  subst hx; rw [k_fnB] at h; exact k_to (ks_m_pm g ad t _) rfl h
theorem ks_m_nd (g : k_g) (ad : k_AD) (t : k_T) (v : Nat → Bool) : ∀ a b, ¬ (a = 21 ∧ b = 0) → k_ct g ad (set_m_nd t v) a b = k_ct g ad t a b := by
  intro a b h
  match a with
  | 0 => rfl
  | 1 => rfl
  | 2 => rfl
  | 3 => rfl
  | 4 => rfl
  | 5 => rfl
  | 6 => rfl
  | 7 => rfl
  | 8 => rfl
  | 9 => rfl
  | 10 => rfl
  | 11 => rfl
  | 12 => rfl
  | 13 => rfl
  | 14 => rfl
  | 15 => rfl
  | 16 => rfl
  | 17 => rfl
  | 18 => rfl
  | 19 => rfl
  | 20 => rfl
  | 21 => match b with | 0 => exact absurd ⟨rfl, rfl⟩ h | b + 1 => rfl
  | 22 => rfl
  | 23 => rfl
  | 24 => rfl
  | 25 => rfl
  | 26 => rfl
  | _ + 27 => rfl
theorem kt_m_nd {g : k_g} {ad : k_AD} {t : k_T} {H : Heap} (k : Nat) (v : Bool) {x : Int32} (hx : x = kb v) (h : k_Wd g (k_up (k_ct g ad t) 21 0 (.inl (g.2.1 1, 60, .inl (upd (fun j => kb (m_nd t j)) k x)))) ad H) : k_H g ad (set_m_nd t (va_up (m_nd t) k v)) H := by
  subst hx; rw [k_fnB] at h; exact k_to (ks_m_nd g ad t _) rfl h
theorem ks_m_ls (g : k_g) (ad : k_AD) (t : k_T) (v : Nat → Bool) : ∀ a b, ¬ (a = 22 ∧ b = 0) → k_ct g ad (set_m_ls t v) a b = k_ct g ad t a b := by
  intro a b h
  match a with
  | 0 => rfl
  | 1 => rfl
  | 2 => rfl
  | 3 => rfl
  | 4 => rfl
  | 5 => rfl
  | 6 => rfl
  | 7 => rfl
  | 8 => rfl
  | 9 => rfl
  | 10 => rfl
  | 11 => rfl
  | 12 => rfl
  | 13 => rfl
  | 14 => rfl
  | 15 => rfl
  | 16 => rfl
  | 17 => rfl
  | 18 => rfl
  | 19 => rfl
  | 20 => rfl
  | 21 => rfl
  | 22 => match b with | 0 => exact absurd ⟨rfl, rfl⟩ h | b + 1 => rfl
  | 23 => rfl
  | 24 => rfl
  | 25 => rfl
  | 26 => rfl
  | _ + 27 => rfl
theorem kt_m_ls {g : k_g} {ad : k_AD} {t : k_T} {H : Heap} (k : Nat) (v : Bool) {x : Int32} (hx : x = kb v) (h : k_Wd g (k_up (k_ct g ad t) 22 0 (.inl (g.2.1 1, 60, .inl (upd (fun j => kb (m_ls t j)) k x)))) ad H) : k_H g ad (set_m_ls t (va_up (m_ls t) k v)) H := by
  subst hx; rw [k_fnB] at h; exact k_to (ks_m_ls g ad t _) rfl h
theorem ks_m_rt (g : k_g) (ad : k_AD) (t : k_T) (v : Nat → Nat) : ∀ a b, ¬ (a = 23 ∧ b = 0) → k_ct g ad (set_m_rt t v) a b = k_ct g ad t a b := by
  intro a b h
  match a with
  | 0 => rfl
  | 1 => rfl
  | 2 => rfl
  | 3 => rfl
  | 4 => rfl
  | 5 => rfl
  | 6 => rfl
  | 7 => rfl
  | 8 => rfl
  | 9 => rfl
  | 10 => rfl
  | 11 => rfl
  | 12 => rfl
  | 13 => rfl
  | 14 => rfl
  | 15 => rfl
  | 16 => rfl
  | 17 => rfl
  | 18 => rfl
  | 19 => rfl
  | 20 => rfl
  | 21 => rfl
  | 22 => rfl
  | 23 => match b with | 0 => exact absurd ⟨rfl, rfl⟩ h | b + 1 => rfl
  | 24 => rfl
  | 25 => rfl
  | 26 => rfl
  | _ + 27 => rfl
theorem kt_m_rt {g : k_g} {ad : k_AD} {t : k_T} {H : Heap} (k : Nat) (v : Nat) {x : Int32} (hx : x = nI v) (h : k_Wd g (k_up (k_ct g ad t) 23 0 (.inl (g.2.1 0, 365, .inl (upd (fun j => nI (m_rt t j)) k x)))) ad H) : k_H g ad (set_m_rt t (va_up (m_rt t) k v)) H := by
  subst hx; rw [k_fnN] at h; exact k_to (ks_m_rt g ad t _) rfl h
theorem ks_l_o (g : k_g) (ad : k_AD) (t : k_T) (v : Nat → Int64) : ∀ a b, ¬ (a = 24 ∧ b = 0) → k_ct g ad (set_l_o t v) a b = k_ct g ad t a b := by
  intro a b h
  match a with
  | 0 => rfl
  | 1 => rfl
  | 2 => rfl
  | 3 => rfl
  | 4 => rfl
  | 5 => rfl
  | 6 => rfl
  | 7 => rfl
  | 8 => rfl
  | 9 => rfl
  | 10 => rfl
  | 11 => rfl
  | 12 => rfl
  | 13 => rfl
  | 14 => rfl
  | 15 => rfl
  | 16 => rfl
  | 17 => rfl
  | 18 => rfl
  | 19 => rfl
  | 20 => rfl
  | 21 => rfl
  | 22 => rfl
  | 23 => rfl
  | 24 => match b with | 0 => exact absurd ⟨rfl, rfl⟩ h | b + 1 => rfl
  | 25 => rfl
  | 26 => rfl
  | _ + 27 => rfl
theorem kt_l_o {g : k_g} {ad : k_AD} {t : k_T} {H : Heap} (k : Nat) (x : Int64) (h : k_Wd g (k_up (k_ct g ad t) 24 0 (.inl (g.2.1 2, 1, .inr (.inl (va_up (l_o t) k x))))) ad H) : k_H g ad (set_l_o t (va_up (l_o t) k x)) H := k_to (ks_l_o g ad t _) rfl h
theorem ks_o_on (g : k_g) (ad : k_AD) (t : k_T) (k : Nat) (v : Nat) : ∀ a b, ¬ (a = 25 ∧ b = k) → k_ct g ad (set_o_on t (va_up (o_on t) k v)) a b = k_ct g ad t a b := by
  intro a b h
  match a with
  | 0 => rfl
  | 1 => rfl
  | 2 => rfl
  | 3 => rfl
  | 4 => rfl
  | 5 => rfl
  | 6 => rfl
  | 7 => rfl
  | 8 => rfl
  | 9 => rfl
  | 10 => rfl
  | 11 => rfl
  | 12 => rfl
  | 13 => rfl
  | 14 => rfl
  | 15 => rfl
  | 16 => rfl
  | 17 => rfl
  | 18 => rfl
  | 19 => rfl
  | 20 => rfl
  | 21 => rfl
  | 22 => rfl
  | 23 => rfl
  | 24 => rfl
  | 25 => have hb : b ≠ k := fun q => h ⟨rfl, q⟩
          show (if b < o_n t then (some (.inr (0, [.int (nI b), .int (nI (va_up (o_on t) k v b)), va_rf ((o_b t b).map (ad 25)), .int (nI (o_ca t b)), .ref (ad 26 b), .int (nI (o_kc t b)), .int (kb (o_dm t b)), .int (kb (o_pv t b)), .int (kb (o_pm t b)), .int (kb (o_nd t b)), .int (kb (o_hd t b))])) : Option va_E) else none) = _
          rw [va_up_ne _ _ hb]; rfl
  | 26 => rfl
  | _ + 27 => rfl
theorem kt_o_on {g : k_g} {ad : k_AD} {t : k_T} {H : Heap} (k : Nat) (hk : k < o_n t) (v : Nat) {x : Int32} (hx : x = nI v) (h : k_Wd g (k_up (k_ct g ad t) 25 k (.inr (0, [.int (nI k), .int x, va_rf ((o_b t k).map (ad 25)), .int (nI (o_ca t k)), .ref (ad 26 k), .int (nI (o_kc t k)), .int (kb (o_dm t k)), .int (kb (o_pv t k)), .int (kb (o_pm t k)), .int (kb (o_nd t k)), .int (kb (o_hd t k))]))) ad H) : k_H g ad (set_o_on t (va_up (o_on t) k v)) H := by
  subst hx
  refine k_to (ks_o_on g ad t k v) ?_ h
  refine (if_pos hk).trans ?_
  show (some (.inr (0, [.int (nI k), .int (nI (va_up (o_on t) k v k)), va_rf ((o_b t k).map (ad 25)), .int (nI (o_ca t k)), .ref (ad 26 k), .int (nI (o_kc t k)), .int (kb (o_dm t k)), .int (kb (o_pv t k)), .int (kb (o_pm t k)), .int (kb (o_nd t k)), .int (kb (o_hd t k))])) : Option va_E) = _
  rw [va_up_self]
theorem ks_o_ca (g : k_g) (ad : k_AD) (t : k_T) (k : Nat) (v : Nat) : ∀ a b, ¬ (a = 25 ∧ b = k) → k_ct g ad (set_o_ca t (va_up (o_ca t) k v)) a b = k_ct g ad t a b := by
  intro a b h
  match a with
  | 0 => rfl
  | 1 => rfl
  | 2 => rfl
  | 3 => rfl
  | 4 => rfl
  | 5 => rfl
  | 6 => rfl
  | 7 => rfl
  | 8 => rfl
  | 9 => rfl
  | 10 => rfl
  | 11 => rfl
  | 12 => rfl
  | 13 => rfl
  | 14 => rfl
  | 15 => rfl
  | 16 => rfl
  | 17 => rfl
  | 18 => rfl
  | 19 => rfl
  | 20 => rfl
  | 21 => rfl
  | 22 => rfl
  | 23 => rfl
  | 24 => rfl
  | 25 => have hb : b ≠ k := fun q => h ⟨rfl, q⟩
          show (if b < o_n t then (some (.inr (0, [.int (nI b), .int (nI (o_on t b)), va_rf ((o_b t b).map (ad 25)), .int (nI (va_up (o_ca t) k v b)), .ref (ad 26 b), .int (nI (o_kc t b)), .int (kb (o_dm t b)), .int (kb (o_pv t b)), .int (kb (o_pm t b)), .int (kb (o_nd t b)), .int (kb (o_hd t b))])) : Option va_E) else none) = _
          rw [va_up_ne _ _ hb]; rfl
  | 26 => rfl
  | _ + 27 => rfl
theorem kt_o_ca {g : k_g} {ad : k_AD} {t : k_T} {H : Heap} (k : Nat) (hk : k < o_n t) (v : Nat) {x : Int32} (hx : x = nI v) (h : k_Wd g (k_up (k_ct g ad t) 25 k (.inr (0, [.int (nI k), .int (nI (o_on t k)), va_rf ((o_b t k).map (ad 25)), .int x, .ref (ad 26 k), .int (nI (o_kc t k)), .int (kb (o_dm t k)), .int (kb (o_pv t k)), .int (kb (o_pm t k)), .int (kb (o_nd t k)), .int (kb (o_hd t k))]))) ad H) : k_H g ad (set_o_ca t (va_up (o_ca t) k v)) H := by
  subst hx
  refine k_to (ks_o_ca g ad t k v) ?_ h
  refine (if_pos hk).trans ?_
  show (some (.inr (0, [.int (nI k), .int (nI (o_on t k)), va_rf ((o_b t k).map (ad 25)), .int (nI (va_up (o_ca t) k v k)), .ref (ad 26 k), .int (nI (o_kc t k)), .int (kb (o_dm t k)), .int (kb (o_pv t k)), .int (kb (o_pm t k)), .int (kb (o_nd t k)), .int (kb (o_hd t k))])) : Option va_E) = _
  rw [va_up_self]
theorem ks_o_kc (g : k_g) (ad : k_AD) (t : k_T) (k : Nat) (v : Nat) : ∀ a b, ¬ (a = 25 ∧ b = k) → k_ct g ad (set_o_kc t (va_up (o_kc t) k v)) a b = k_ct g ad t a b := by
  intro a b h
  match a with
  | 0 => rfl
  | 1 => rfl
  | 2 => rfl
  | 3 => rfl
  | 4 => rfl
  | 5 => rfl
  | 6 => rfl
  | 7 => rfl
  | 8 => rfl
  | 9 => rfl
  | 10 => rfl
  | 11 => rfl
  | 12 => rfl
  | 13 => rfl
  | 14 => rfl
  | 15 => rfl
  | 16 => rfl
  | 17 => rfl
  | 18 => rfl
  | 19 => rfl
  | 20 => rfl
  | 21 => rfl
  | 22 => rfl
  | 23 => rfl
  | 24 => rfl
  | 25 => have hb : b ≠ k := fun q => h ⟨rfl, q⟩
          show (if b < o_n t then (some (.inr (0, [.int (nI b), .int (nI (o_on t b)), va_rf ((o_b t b).map (ad 25)), .int (nI (o_ca t b)), .ref (ad 26 b), .int (nI (va_up (o_kc t) k v b)), .int (kb (o_dm t b)), .int (kb (o_pv t b)), .int (kb (o_pm t b)), .int (kb (o_nd t b)), .int (kb (o_hd t b))])) : Option va_E) else none) = _
          rw [va_up_ne _ _ hb]; rfl
  | 26 => rfl
  | _ + 27 => rfl
theorem kt_o_kc {g : k_g} {ad : k_AD} {t : k_T} {H : Heap} (k : Nat) (hk : k < o_n t) (v : Nat) {x : Int32} (hx : x = nI v) (h : k_Wd g (k_up (k_ct g ad t) 25 k (.inr (0, [.int (nI k), .int (nI (o_on t k)), va_rf ((o_b t k).map (ad 25)), .int (nI (o_ca t k)), .ref (ad 26 k), .int x, .int (kb (o_dm t k)), .int (kb (o_pv t k)), .int (kb (o_pm t k)), .int (kb (o_nd t k)), .int (kb (o_hd t k))]))) ad H) : k_H g ad (set_o_kc t (va_up (o_kc t) k v)) H := by
  subst hx
  refine k_to (ks_o_kc g ad t k v) ?_ h
  refine (if_pos hk).trans ?_
  show (some (.inr (0, [.int (nI k), .int (nI (o_on t k)), va_rf ((o_b t k).map (ad 25)), .int (nI (o_ca t k)), .ref (ad 26 k), .int (nI (va_up (o_kc t) k v k)), .int (kb (o_dm t k)), .int (kb (o_pv t k)), .int (kb (o_pm t k)), .int (kb (o_nd t k)), .int (kb (o_hd t k))])) : Option va_E) = _
  rw [va_up_self]
theorem ks_o_dm (g : k_g) (ad : k_AD) (t : k_T) (k : Nat) (v : Bool) : ∀ a b, ¬ (a = 25 ∧ b = k) → k_ct g ad (set_o_dm t (va_up (o_dm t) k v)) a b = k_ct g ad t a b := by
  intro a b h
  match a with
  | 0 => rfl
  | 1 => rfl
  | 2 => rfl
  | 3 => rfl
  | 4 => rfl
  | 5 => rfl
  | 6 => rfl
  | 7 => rfl
  | 8 => rfl
  | 9 => rfl
  | 10 => rfl
  | 11 => rfl
  | 12 => rfl
  | 13 => rfl
  | 14 => rfl
  | 15 => rfl
  | 16 => rfl
  | 17 => rfl
  | 18 => rfl
  | 19 => rfl
  | 20 => rfl
  | 21 => rfl
  | 22 => rfl
  | 23 => rfl
  | 24 => rfl
  | 25 => have hb : b ≠ k := fun q => h ⟨rfl, q⟩
          show (if b < o_n t then (some (.inr (0, [.int (nI b), .int (nI (o_on t b)), va_rf ((o_b t b).map (ad 25)), .int (nI (o_ca t b)), .ref (ad 26 b), .int (nI (o_kc t b)), .int (kb (va_up (o_dm t) k v b)), .int (kb (o_pv t b)), .int (kb (o_pm t b)), .int (kb (o_nd t b)), .int (kb (o_hd t b))])) : Option va_E) else none) = _
          rw [va_up_ne _ _ hb]; rfl
  | 26 => rfl
  | _ + 27 => rfl
theorem kt_o_dm {g : k_g} {ad : k_AD} {t : k_T} {H : Heap} (k : Nat) (hk : k < o_n t) (v : Bool) {x : Int32} (hx : x = kb v) (h : k_Wd g (k_up (k_ct g ad t) 25 k (.inr (0, [.int (nI k), .int (nI (o_on t k)), va_rf ((o_b t k).map (ad 25)), .int (nI (o_ca t k)), .ref (ad 26 k), .int (nI (o_kc t k)), .int x, .int (kb (o_pv t k)), .int (kb (o_pm t k)), .int (kb (o_nd t k)), .int (kb (o_hd t k))]))) ad H) : k_H g ad (set_o_dm t (va_up (o_dm t) k v)) H := by
  subst hx
  refine k_to (ks_o_dm g ad t k v) ?_ h
  refine (if_pos hk).trans ?_
  show (some (.inr (0, [.int (nI k), .int (nI (o_on t k)), va_rf ((o_b t k).map (ad 25)), .int (nI (o_ca t k)), .ref (ad 26 k), .int (nI (o_kc t k)), .int (kb (va_up (o_dm t) k v k)), .int (kb (o_pv t k)), .int (kb (o_pm t k)), .int (kb (o_nd t k)), .int (kb (o_hd t k))])) : Option va_E) = _
  rw [va_up_self]
theorem ks_o_pv (g : k_g) (ad : k_AD) (t : k_T) (k : Nat) (v : Bool) : ∀ a b, ¬ (a = 25 ∧ b = k) → k_ct g ad (set_o_pv t (va_up (o_pv t) k v)) a b = k_ct g ad t a b := by
  intro a b h
  match a with
  | 0 => rfl
  | 1 => rfl
  | 2 => rfl
  | 3 => rfl
  | 4 => rfl
  | 5 => rfl
  | 6 => rfl
  | 7 => rfl
  | 8 => rfl
  | 9 => rfl
  | 10 => rfl
  | 11 => rfl
  | 12 => rfl
  | 13 => rfl
  | 14 => rfl
  | 15 => rfl
  | 16 => rfl
  | 17 => rfl
  | 18 => rfl
  | 19 => rfl
  | 20 => rfl
  | 21 => rfl
  | 22 => rfl
  | 23 => rfl
  | 24 => rfl
  | 25 => have hb : b ≠ k := fun q => h ⟨rfl, q⟩
          show (if b < o_n t then (some (.inr (0, [.int (nI b), .int (nI (o_on t b)), va_rf ((o_b t b).map (ad 25)), .int (nI (o_ca t b)), .ref (ad 26 b), .int (nI (o_kc t b)), .int (kb (o_dm t b)), .int (kb (va_up (o_pv t) k v b)), .int (kb (o_pm t b)), .int (kb (o_nd t b)), .int (kb (o_hd t b))])) : Option va_E) else none) = _
          rw [va_up_ne _ _ hb]; rfl
  | 26 => rfl
  | _ + 27 => rfl
theorem kt_o_pv {g : k_g} {ad : k_AD} {t : k_T} {H : Heap} (k : Nat) (hk : k < o_n t) (v : Bool) {x : Int32} (hx : x = kb v) (h : k_Wd g (k_up (k_ct g ad t) 25 k (.inr (0, [.int (nI k), .int (nI (o_on t k)), va_rf ((o_b t k).map (ad 25)), .int (nI (o_ca t k)), .ref (ad 26 k), .int (nI (o_kc t k)), .int (kb (o_dm t k)), .int x, .int (kb (o_pm t k)), .int (kb (o_nd t k)), .int (kb (o_hd t k))]))) ad H) : k_H g ad (set_o_pv t (va_up (o_pv t) k v)) H := by
  subst hx
  refine k_to (ks_o_pv g ad t k v) ?_ h
  refine (if_pos hk).trans ?_
  show (some (.inr (0, [.int (nI k), .int (nI (o_on t k)), va_rf ((o_b t k).map (ad 25)), .int (nI (o_ca t k)), .ref (ad 26 k), .int (nI (o_kc t k)), .int (kb (o_dm t k)), .int (kb (va_up (o_pv t) k v k)), .int (kb (o_pm t k)), .int (kb (o_nd t k)), .int (kb (o_hd t k))])) : Option va_E) = _
  rw [va_up_self]
theorem ks_o_pm (g : k_g) (ad : k_AD) (t : k_T) (k : Nat) (v : Bool) : ∀ a b, ¬ (a = 25 ∧ b = k) → k_ct g ad (set_o_pm t (va_up (o_pm t) k v)) a b = k_ct g ad t a b := by
  intro a b h
  match a with
  | 0 => rfl
  | 1 => rfl
  | 2 => rfl
  | 3 => rfl
  | 4 => rfl
  | 5 => rfl
  | 6 => rfl
  | 7 => rfl
  | 8 => rfl
  | 9 => rfl
  | 10 => rfl
  | 11 => rfl
  | 12 => rfl
  | 13 => rfl
  | 14 => rfl
  | 15 => rfl
  | 16 => rfl
  | 17 => rfl
  | 18 => rfl
  | 19 => rfl
  | 20 => rfl
  | 21 => rfl
  | 22 => rfl
  | 23 => rfl
  | 24 => rfl
  | 25 => have hb : b ≠ k := fun q => h ⟨rfl, q⟩
          show (if b < o_n t then (some (.inr (0, [.int (nI b), .int (nI (o_on t b)), va_rf ((o_b t b).map (ad 25)), .int (nI (o_ca t b)), .ref (ad 26 b), .int (nI (o_kc t b)), .int (kb (o_dm t b)), .int (kb (o_pv t b)), .int (kb (va_up (o_pm t) k v b)), .int (kb (o_nd t b)), .int (kb (o_hd t b))])) : Option va_E) else none) = _
          rw [va_up_ne _ _ hb]; rfl
  | 26 => rfl
  | _ + 27 => rfl
theorem kt_o_pm {g : k_g} {ad : k_AD} {t : k_T} {H : Heap} (k : Nat) (hk : k < o_n t) (v : Bool) {x : Int32} (hx : x = kb v) (h : k_Wd g (k_up (k_ct g ad t) 25 k (.inr (0, [.int (nI k), .int (nI (o_on t k)), va_rf ((o_b t k).map (ad 25)), .int (nI (o_ca t k)), .ref (ad 26 k), .int (nI (o_kc t k)), .int (kb (o_dm t k)), .int (kb (o_pv t k)), .int x, .int (kb (o_nd t k)), .int (kb (o_hd t k))]))) ad H) : k_H g ad (set_o_pm t (va_up (o_pm t) k v)) H := by
  subst hx
  refine k_to (ks_o_pm g ad t k v) ?_ h
  refine (if_pos hk).trans ?_
  show (some (.inr (0, [.int (nI k), .int (nI (o_on t k)), va_rf ((o_b t k).map (ad 25)), .int (nI (o_ca t k)), .ref (ad 26 k), .int (nI (o_kc t k)), .int (kb (o_dm t k)), .int (kb (o_pv t k)), .int (kb (va_up (o_pm t) k v k)), .int (kb (o_nd t k)), .int (kb (o_hd t k))])) : Option va_E) = _
  rw [va_up_self]
theorem ks_o_nd (g : k_g) (ad : k_AD) (t : k_T) (k : Nat) (v : Bool) : ∀ a b, ¬ (a = 25 ∧ b = k) → k_ct g ad (set_o_nd t (va_up (o_nd t) k v)) a b = k_ct g ad t a b := by
  intro a b h
  match a with
  | 0 => rfl
  | 1 => rfl
  | 2 => rfl
  | 3 => rfl
  | 4 => rfl
  | 5 => rfl
  | 6 => rfl
  | 7 => rfl
  | 8 => rfl
  | 9 => rfl
  | 10 => rfl
  | 11 => rfl
  | 12 => rfl
  | 13 => rfl
  | 14 => rfl
  | 15 => rfl
  | 16 => rfl
  | 17 => rfl
  | 18 => rfl
  | 19 => rfl
  | 20 => rfl
  | 21 => rfl
  | 22 => rfl
  | 23 => rfl
  | 24 => rfl
  | 25 => have hb : b ≠ k := fun q => h ⟨rfl, q⟩
          show (if b < o_n t then (some (.inr (0, [.int (nI b), .int (nI (o_on t b)), va_rf ((o_b t b).map (ad 25)), .int (nI (o_ca t b)), .ref (ad 26 b), .int (nI (o_kc t b)), .int (kb (o_dm t b)), .int (kb (o_pv t b)), .int (kb (o_pm t b)), .int (kb (va_up (o_nd t) k v b)), .int (kb (o_hd t b))])) : Option va_E) else none) = _
          rw [va_up_ne _ _ hb]; rfl
  | 26 => rfl
  | _ + 27 => rfl
theorem kt_o_nd {g : k_g} {ad : k_AD} {t : k_T} {H : Heap} (k : Nat) (hk : k < o_n t) (v : Bool) {x : Int32} (hx : x = kb v) (h : k_Wd g (k_up (k_ct g ad t) 25 k (.inr (0, [.int (nI k), .int (nI (o_on t k)), va_rf ((o_b t k).map (ad 25)), .int (nI (o_ca t k)), .ref (ad 26 k), .int (nI (o_kc t k)), .int (kb (o_dm t k)), .int (kb (o_pv t k)), .int (kb (o_pm t k)), .int x, .int (kb (o_hd t k))]))) ad H) : k_H g ad (set_o_nd t (va_up (o_nd t) k v)) H := by
  subst hx
  refine k_to (ks_o_nd g ad t k v) ?_ h
  refine (if_pos hk).trans ?_
  show (some (.inr (0, [.int (nI k), .int (nI (o_on t k)), va_rf ((o_b t k).map (ad 25)), .int (nI (o_ca t k)), .ref (ad 26 k), .int (nI (o_kc t k)), .int (kb (o_dm t k)), .int (kb (o_pv t k)), .int (kb (o_pm t k)), .int (kb (va_up (o_nd t) k v k)), .int (kb (o_hd t k))])) : Option va_E) = _
  rw [va_up_self]
theorem ks_o_hd (g : k_g) (ad : k_AD) (t : k_T) (k : Nat) (v : Bool) : ∀ a b, ¬ (a = 25 ∧ b = k) → k_ct g ad (set_o_hd t (va_up (o_hd t) k v)) a b = k_ct g ad t a b := by
  intro a b h
  match a with
  | 0 => rfl
  | 1 => rfl
  | 2 => rfl
  | 3 => rfl
  | 4 => rfl
  | 5 => rfl
  | 6 => rfl
  | 7 => rfl
  | 8 => rfl
  | 9 => rfl
  | 10 => rfl
  | 11 => rfl
  | 12 => rfl
  | 13 => rfl
  | 14 => rfl
  | 15 => rfl
  | 16 => rfl
  | 17 => rfl
  | 18 => rfl
  | 19 => rfl
  | 20 => rfl
  | 21 => rfl
  | 22 => rfl
  | 23 => rfl
  | 24 => rfl
  | 25 => have hb : b ≠ k := fun q => h ⟨rfl, q⟩
          show (if b < o_n t then (some (.inr (0, [.int (nI b), .int (nI (o_on t b)), va_rf ((o_b t b).map (ad 25)), .int (nI (o_ca t b)), .ref (ad 26 b), .int (nI (o_kc t b)), .int (kb (o_dm t b)), .int (kb (o_pv t b)), .int (kb (o_pm t b)), .int (kb (o_nd t b)), .int (kb (va_up (o_hd t) k v b))])) : Option va_E) else none) = _
          rw [va_up_ne _ _ hb]; rfl
  | 26 => rfl
  | _ + 27 => rfl
theorem kt_o_hd {g : k_g} {ad : k_AD} {t : k_T} {H : Heap} (k : Nat) (hk : k < o_n t) (v : Bool) {x : Int32} (hx : x = kb v) (h : k_Wd g (k_up (k_ct g ad t) 25 k (.inr (0, [.int (nI k), .int (nI (o_on t k)), va_rf ((o_b t k).map (ad 25)), .int (nI (o_ca t k)), .ref (ad 26 k), .int (nI (o_kc t k)), .int (kb (o_dm t k)), .int (kb (o_pv t k)), .int (kb (o_pm t k)), .int (kb (o_nd t k)), .int x]))) ad H) : k_H g ad (set_o_hd t (va_up (o_hd t) k v)) H := by
  subst hx
  refine k_to (ks_o_hd g ad t k v) ?_ h
  refine (if_pos hk).trans ?_
  show (some (.inr (0, [.int (nI k), .int (nI (o_on t k)), va_rf ((o_b t k).map (ad 25)), .int (nI (o_ca t k)), .ref (ad 26 k), .int (nI (o_kc t k)), .int (kb (o_dm t k)), .int (kb (o_pv t k)), .int (kb (o_pm t k)), .int (kb (o_nd t k)), .int (kb (va_up (o_hd t) k v k))])) : Option va_E) = _
  rw [va_up_self]
theorem ks_o_k (g : k_g) (ad : k_AD) (t : k_T) (k : Nat) (v : Nat → Int32) : ∀ a b, ¬ (a = 26 ∧ b = k) → k_ct g ad (set_o_k t (va_up (o_k t) k v)) a b = k_ct g ad t a b := by
  intro a b h
  match a with
  | 0 => rfl
  | 1 => rfl
  | 2 => rfl
  | 3 => rfl
  | 4 => rfl
  | 5 => rfl
  | 6 => rfl
  | 7 => rfl
  | 8 => rfl
  | 9 => rfl
  | 10 => rfl
  | 11 => rfl
  | 12 => rfl
  | 13 => rfl
  | 14 => rfl
  | 15 => rfl
  | 16 => rfl
  | 17 => rfl
  | 18 => rfl
  | 19 => rfl
  | 20 => rfl
  | 21 => rfl
  | 22 => rfl
  | 23 => rfl
  | 24 => rfl
  | 25 => rfl
  | 26 => have hb : b ≠ k := fun q => h ⟨rfl, q⟩
          show (if b < o_n t then (some (.inl (g.2.1 0, 10, .inl (va_up (o_k t) k v b))) : Option va_E) else none) = _
          rw [va_up_ne _ _ hb]; rfl
  | _ + 27 => rfl
theorem kt_o_k {g : k_g} {ad : k_AD} {t : k_T} {H : Heap} (k : Nat) (hk : k < o_n t) (j : Nat) (x : Int32) (h : k_Wd g (k_up (k_ct g ad t) 26 k (.inl (g.2.1 0, 10, .inl (upd (o_k t k) j x)))) ad H) : k_H g ad (set_o_k t (va_up (o_k t) k (va_up (o_k t k) j x))) H := by
  refine k_to (ks_o_k g ad t k _) ?_ h
  refine (if_pos hk).trans ?_
  show (some (.inl (g.2.1 0, 10, .inl (va_up (o_k t) k (va_up (o_k t k) j x) k))) : Option va_E) = _
  rw [va_up_self]; rfl
end
section
section KEnds
variable {p : Program} {l : Launch} {e : Env} {R : Room} {s : State} {m : MethodId} {args : Array Value} {below : List Frame} {meth : Method} {c : Code} {H : Heap} {locs : List Loc} {cells slots : Nat} {Q : State → Prop}
variable {cc : ByteArray} {pc : Nat} {ls : Array Slot} {rest st0 : List Value} {g : k_g} {G : k_G} {ad : k_AD} {mc ms : Nat} {free : Addr → Prop} {a : Array Value} {XC : String → State → State → Prop}
/-- a contract's frame -/
theorem k_met {y : MethodName} {ws ws' : List Cond} {rm : Room} {Qc : Array Value → State → Outcome → State → Prop} {av : List Value} {cc : ByteArray} {maxL : Nat} {ret : Option FieldType} (hy : plainName y.cls = true) (hw : ws = Cond.code y cc maxL ret :: ws') (hle : (lg_sl av).length ≤ maxL)
  (body : ∀ (p : Program) (e : Env) (s : State) (m : MethodId) (args : Array Value) (below : List Frame) (meth : Method) (c : Code) (Q : State → Prop) (ls : Array Slot), Q = MQ below Qc args s mc ms (k_A g) → p.tables.exec = Jvm.exec → c.code = cc → meth.sig.returnType = ret → c.maxLocals = maxL → (∀ w ∈ ws, w.before args s = true) → s.vm.findClass y.cls = some m.cls → meth.locks = false → meth.name = y.name → k_K g s → k_Z g s s.heap → g.2.2 ≤ s.heap.size → k_Wd g G ad s.heap → va_S (k_A g) s.heap s.heap [] → lv_has ls maxL (lv_args 0 av) → W p l e rm s m args below meth c s.heap [] 0 0 Q (F0 m 0 ls [])) : Met l y ws rm (va_Pc av (k_I g G ad)) Qc mc ms (k_A g) := by
  refine Met.ofW (cc := cc) (maxL := maxL) (ret := ret) hy hw ?_
  intro p e s m args below meth c s₁ B hml hv
  obtain ⟨rfl, hK, hZ, hN, hW⟩ := hv
  rw [lg_entry_eq]
  exact body p e s m _ below meth c _ _ rfl B.exec B.bytes B.returns hml (atoms_spec (ws := ws) B.pre) (findClass_of_methodNamed B.named) B.notSynchronized (name_of_methodNamed B.named B.method).1 hK hZ hN hW va_S.rf (lv_entry av hle)
theorem k_metX {y : MethodName} {ws ws' : List Cond} {rm : Room} {Qc : Array Value → State → Outcome → State → Prop} {av : List Value} {cc : ByteArray} {maxL : Nat} {ret : Option FieldType} (hy : plainName y.cls = true) (hw : ws = Cond.code y cc maxL ret :: ws') (hle : (lg_sl av).length ≤ maxL)
  (body : ∀ (p : Program) (e : Env) (s : State) (m : MethodId) (args : Array Value) (below : List Frame) (meth : Method) (c : Code) (Q : State → Prop) (ls : Array Slot), Q = vx_MQ below Qc XC args s mc ms (k_A g) → p.tables.exec = Jvm.exec → c.code = cc → meth.sig.returnType = ret → c.maxLocals = maxL → (∀ w ∈ ws, w.before args s = true) → s.vm.findClass y.cls = some m.cls → meth.locks = false → meth.name = y.name → (∀ x ∈ c.exceptionTable.toList, False) → k_K g s → k_Z g s s.heap → g.2.2 ≤ s.heap.size → k_Wd g G ad s.heap → va_S (k_A g) s.heap s.heap [] → lv_has ls maxL (lv_args 0 av) → W p l e rm s m args below meth c s.heap [] 0 0 Q (F0 m 0 ls [])) : vx_Met l y ws rm (va_Pc av (k_I g G ad)) Qc XC mc ms (k_A g) := by
  refine vx_ofW (cc := cc) (maxL := maxL) (ret := ret) hy hw ?_
  intro p e s m args below meth c s₁ B hml ht hv
  obtain ⟨rfl, hK, hZ, hN, hW⟩ := hv
  rw [lg_entry_eq]
  exact body p e s m _ below meth c _ _ rfl B.exec B.bytes B.returns hml (atoms_spec (ws := ws) B.pre) (findClass_of_methodNamed B.named) B.notSynchronized (name_of_methodNamed B.named B.method).1 ht hK hZ hN hW va_S.rf (lv_entry av hle)
theorem k_ri {post : Int32 → k_T → Prop} {r : Int32} {t : k_T} (hQ : Q = MQ below (va_Qi post (fun u U => k_H g ad u U.heap) (k_A g)) args s mc ms (k_A g)) (hx : p.tables.exec = Jvm.exec) (hb : c.code = cc) (hr : meth.sig.returnType = some .int) (hlk : meth.locks = false) (hS : va_S (k_A g) s.heap H locs) (hW : k_H g ad t H) (hp : post r t) (hc : cells ≤ mc) (hs : slots ≤ ms) (hd : decode cc pc = .ok (.ireturn, 1)) : W p l e R s m args below meth c H locs cells slots Q (F0 m pc ls [.int r]) := by
  subst hQ
  refine W.widen hc hs ?_
  exact W.iret hx hb hr (fun t9 ht _ => ⟨⟨r, t, rfl, hp, by show k_H g ad t t9.heap; rw [ht]; exact hW⟩, hS.F ht⟩) hS.2.2 hd hlk
theorem k_rz {post : Int32 → k_T → Prop} {r : Int32} {t : k_T} (hQ : Q = MQ below (va_Qi post (fun u U => k_H g ad u U.heap) (k_A g)) args s mc ms (k_A g)) (hx : p.tables.exec = Jvm.exec) (hb : c.code = cc) (hr : meth.sig.returnType = some .boolean) (hn : narrow .boolean (.int r) = .int r) (hlk : meth.locks = false) (hS : va_S (k_A g) s.heap H locs) (hW : k_H g ad t H) (hp : post r t) (hc : cells ≤ mc) (hs : slots ≤ ms) (hd : decode cc pc = .ok (.ireturn, 1)) : W p l e R s m args below meth c H locs cells slots Q (F0 m pc ls [.int r]) := by
  subst hQ
  refine W.widen hc hs ?_
  exact W.zret hx hb hr hn (fun t9 ht _ => ⟨⟨r, t, rfl, hp, by show k_H g ad t t9.heap; rw [ht]; exact hW⟩, hS.F ht⟩) hS.2.2 hd hlk
theorem k_rv {post : k_T → Prop} {t : k_T} (hQ : Q = MQ below (va_Qv post (fun u U => k_H g ad u U.heap) (k_A g)) args s mc ms (k_A g)) (hx : p.tables.exec = Jvm.exec) (hb : c.code = cc) (hr : meth.sig.returnType = none) (hlk : meth.locks = false) (hS : va_S (k_A g) s.heap H locs) (hW : k_H g ad t H) (hp : post t) (hc : cells ≤ mc) (hs : slots ≤ ms) (hd : decode cc pc = .ok (.return_, 1)) : W p l e R s m args below meth c H locs cells slots Q (F0 m pc ls []) := by
  subst hQ
  refine W.widen hc hs ?_
  exact W.vret hx hb hr (fun t9 ht _ => ⟨⟨t, rfl, hp, by show k_H g ad t t9.heap; rw [ht]; exact hW⟩, hS.F ht⟩) hS.2.2 hd hlk
theorem k_rq {post : Option Nat → k_T → Prop} {r : Option Nat} {C : String} {t : k_T} (hQ : Q = MQ below (va_Qq post (fun u U => k_H g ad u U.heap) (k_A g)) args s mc ms (k_A g)) (hx : p.tables.exec = Jvm.exec) (hb : c.code = cc) (hr : meth.sig.returnType = some (.object C)) (hlk : meth.locks = false) (hS : va_S (k_A g) s.heap H locs) (hW : k_H g ad t H) (hp : post r t) (hc : cells ≤ mc) (hs : slots ≤ ms) (hd : decode cc pc = .ok (.areturn, 1)) : W p l e R s m args below meth c H locs cells slots Q (F0 m pc ls [va_rf r]) := by
  subst hQ
  refine W.widen hc hs ?_
  exact W.aret hx hb hr (Or.inl ⟨_, rfl⟩) (va_rf_or r) (fun t9 ht _ => ⟨⟨r, t, rfl, hp, by show k_H g ad t t9.heap; rw [ht]; exact hW⟩, hS.F ht⟩) hS.2.2 hd hlk
theorem k_ci {post : Int32 → k_T → Prop} (hr : va_Run p l e R s m args below meth c H locs cells slots mc ms (F0 m pc ls st0) rest (va_Qi post (fun u U => k_H g ad u U.heap) (k_A g) a) (k_A g)) (hS : va_S (k_A g) s.heap H locs)
    (kk : ∀ (r : Int32) (u : k_T) (H1 : Heap) (locs1 : List Loc), post r u → k_H g ad u H1 → va_S (k_A g) s.heap H1 locs1 → W p l e R s m args below meth c H1 locs1 (cells + mc) (slots + ms) Q (F0 m (pc + 3) ls (.int r :: rest))) : W p l e R s m args below meth c H locs cells slots Q (F0 m pc ls st0) :=
  va_calli hr hS (fun _ _ h => h) (fun _ h => h) (fun r u t H1 locs1 ht _ hp hb _ _ hS1 => kk r u H1 locs1 hp (ht ▸ hb) hS1)
theorem k_cv {post : k_T → Prop} (hr : va_Run p l e R s m args below meth c H locs cells slots mc ms (F0 m pc ls st0) rest (va_Qv post (fun u U => k_H g ad u U.heap) (k_A g) a) (k_A g)) (hS : va_S (k_A g) s.heap H locs)
    (kk : ∀ (u : k_T) (H1 : Heap) (locs1 : List Loc), post u → k_H g ad u H1 → va_S (k_A g) s.heap H1 locs1 → W p l e R s m args below meth c H1 locs1 (cells + mc) (slots + ms) Q (F0 m (pc + 3) ls rest)) : W p l e R s m args below meth c H locs cells slots Q (F0 m pc ls st0) :=
  va_callv hr hS (fun _ _ h => h) (fun _ h => h) (fun u t H1 locs1 ht _ hp hb _ _ hS1 => kk u H1 locs1 hp (ht ▸ hb) hS1)
theorem k_cq {post : Option Nat → k_T → Prop} (hr : va_Run p l e R s m args below meth c H locs cells slots mc ms (F0 m pc ls st0) rest (va_Qq post (fun u U => k_H g ad u U.heap) (k_A g) a) (k_A g)) (hS : va_S (k_A g) s.heap H locs)
    (kk : ∀ (r : Option Nat) (u : k_T) (H1 : Heap) (locs1 : List Loc), post r u → k_H g ad u H1 → va_S (k_A g) s.heap H1 locs1 → W p l e R s m args below meth c H1 locs1 (cells + mc) (slots + ms) Q (F0 m (pc + 3) ls (va_rf r :: rest))) : W p l e R s m args below meth c H locs cells slots Q (F0 m pc ls st0) :=
  va_callq hr hS (fun _ _ h => h) (fun _ h => h) (fun r u t H1 locs1 ht _ hp hb _ _ hS1 => kk r u H1 locs1 hp (ht ▸ hb) hS1)
theorem k_xv {Qc : Array Value → State → Outcome → State → Prop} {EX EXc : String → Prop} {t : k_T} {mc1 ms1 : Nat} (hQ : Q = vx_MQ below Qc (vx_X (fun u => u = t) (fun E u U => EX E ∧ k_H g ad u U.heap) (k_A g)) args s mc1 ms1 (k_A g)) (hout : ∀ x ∈ c.exceptionTable.toList, False) (hlk : meth.locks = false) (hr : vx_Run p l e R s m args below meth c H locs cells slots mc ms (F0 m pc ls st0) rest (va_Qv (fun _ => False) (fun u U => k_H g ad u U.heap) (k_A g) a) (vx_X (fun u => u = t) (fun E u U => EXc E ∧ k_H g ad u U.heap) (k_A g)) (k_A g)) (hE : ∀ E, EXc E → EX E) (hS : va_S (k_A g) s.heap H locs) (hc : cells + mc ≤ mc1) (hs : slots + ms ≤ ms1) : W p l e R s m args below meth c H locs cells slots Q (F0 m pc ls st0) := by
  subst hQ
  refine vx_callv hr hS (fun _ _ h => h) (fun _ h => h) (fun _ _ h => h) (fun E ce q9 u t9 H1 locs1 ht _ hp hB _ _ hS1 hce hcv hcl => ?_) (fun u t9 H1 locs1 ht _ hp _ _ _ _ => hp.elim)
  exact vx_out (fun x hx => (hout x hx).elim) hlk hce hcv hcl (fun t8 ht8 _ => ⟨u, hp, ⟨hE E hB.1, by show k_H g ad u t8.heap; rw [ht8, ← ht]; exact hB.2⟩, hS1.F ht8⟩) hS1.2.2 hc hs
/-- new X("..") and throw, in a method of the face -/
theorem k_throw {Qc : Array Value → State → Outcome → State → Prop} {EX : String → Prop} {t : k_T} {cls text : String} {ik is ic nL : Nat} {Ts : List Cond} {lv : List (Nat × Value)} (hQ : Q = vx_MQ below Qc (vx_X (fun u => u = t) (fun E u U => EX E ∧ k_H g ad u U.heap) (k_A g)) args s mc ms (k_A g)) (hout : ∀ x ∈ c.exceptionTable.toList, False) (hx : p.tables.exec = Jvm.exec) (hb : c.code = cc) (hlt : l.stackTraces = false) (hml : c.maxLocals = nL) (hlk : meth.locks = false) (hown : s.vm.findClass RX4 = some m.cls) (hts : ∀ w ∈ Ts, w.before args s = true) (hcls : Bundle.fit cls = true)
    (hk : Cond.classLink RX4 ik cls ∈ Ts) (hini : Cond.initialized cls ∈ Ts) (hat : ∀ w ∈ (vx_atS RX4 ic cls ["java/lang/RuntimeException", "java/lang/Exception"]).filter goodWord, w ∈ Ts) (hbad : ∀ w ∈ (vx_atS RX4 ic cls ["java/lang/RuntimeException", "java/lang/Exception"]).filter (fun w => !goodWord w), w ∈ Cond.castable cls cls :: k_decs.map Cond.declares) (hgood : ∀ w ∈ Cond.classLink RX4 ik cls :: Cond.initialized cls :: vx_atS RX4 ic cls ["java/lang/RuntimeException", "java/lang/Exception"], vx_ot w = true)
    (hstr : (RX4, is, text) ∈ k_strs) (hca : (cls, cls) ∈ k_cast) (hK : k_K g s) (hZ : k_Z g s s.heap) (hS : va_S (k_A g) s.heap H locs) (hW : k_H g ad t H) (hl : lv_has ls nL lv) (hE : EX cls)
    (d0 : decode cc pc = .ok (.new ik, 3)) (d3 : decode cc (pc + 3) = .ok (.dup, 1)) (d4 : decode cc (pc + 4) = .ok (.ldc is, 2)) (d6 : decode cc (pc + 6) = .ok (.invokespecial ic, 3)) (d9 : decode cc (pc + 9) = .ok (.athrow, 1))
    (hRf : 6 ≤ R.frames) (hRl : (rest.map fun v => v.category).sum + 82 ≤ R.locals) (hRc : cells + 1 ≤ R.cells) (hRs : slots + 6 ≤ R.slots) (hc : cells + 1 ≤ mc) (hs : slots + 6 ≤ ms) : W p l e R s m args below meth c H locs cells slots Q (F0 m pc ls rest) := by
  subst hQ
  obtain ⟨sa, hsa⟩ := hK.2.2.2.1 _ hstr
  refine vx_throwS (names := ["java/lang/RuntimeException", "java/lang/Exception"]) hx hb hlt hown hcls (by decide) (hts _ hk) (hts _ hini) hsa (vx_hat (fun w h => hts w (hat w h)) hbad (vx_c (k_Ca.use (hK.2.2.2.2.1 _ hca)) (fun w hw => by obtain ⟨q, hq, rfl⟩ := List.mem_map.mp hw; exact va_any rfl (hK.2.2.2.2.2.2.2 q hq)))) hgood hZ.1 hZ.2 hS (hl.1.trans hml.symm) d0 d3 d4 d6 d9 (fun x hx => (hout x hx).elim) hRf hRl hRc hRs hlk ?_ hS.2.2 hc hs
  intro t9 _ hz hk9
  exact ⟨t, rfl, ⟨hE, hW.grown hk9⟩, ⟨Nat.le_trans hS.1 hz, fun q h1 h2 => (hk9 q (Nat.lt_of_lt_of_le h1 hS.1)).trans (hS.2.1 q h1 h2)⟩⟩
theorem k_toi {x y : Int32} (h : x = y) (k : W p l e R s m args below meth c H locs cells slots Q (F0 m pc ls (.int y :: rest))) : W p l e R s m args below meth c H locs cells slots Q (F0 m pc ls (.int x :: rest)) := h ▸ k
theorem k_tov {x y : Value} (h : x = y) (k : W p l e R s m args below meth c H locs cells slots Q (F0 m pc ls (y :: rest))) : W p l e R s m args below meth c H locs cells slots Q (F0 m pc ls (x :: rest)) := h ▸ k
theorem k_iadd (hx : p.tables.exec = Jvm.exec) (hb : c.code = cc) {a b : Nat} (hd : decode cc pc = .ok (.iadd, 1)) (k : W p l e R s m args below meth c H locs cells slots Q (F0 m (pc + 1) ls (.int (nI (a + b)) :: rest))) : W p l e R s m args below meth c H locs cells slots Q (F0 m pc ls (.int (nI b) :: .int (nI a) :: rest)) := lv_iadd hx hb hd (by rw [nI_add]; exact k)
theorem k_isub (hx : p.tables.exec = Jvm.exec) (hb : c.code = cc) {a b : Nat} (h : b ≤ a) (hd : decode cc pc = .ok (.isub, 1)) (k : W p l e R s m args below meth c H locs cells slots Q (F0 m (pc + 1) ls (.int (nI (a - b)) :: rest))) : W p l e R s m args below meth c H locs cells slots Q (F0 m pc ls (.int (nI b) :: .int (nI a) :: rest)) := lv_isub hx hb hd (by rw [pk_sub h]; exact k)
theorem k_imul (hx : p.tables.exec = Jvm.exec) (hb : c.code = cc) {a b : Nat} (hd : decode cc pc = .ok (.imul, 1)) (k : W p l e R s m args below meth c H locs cells slots Q (F0 m (pc + 1) ls (.int (nI (a * b)) :: rest))) : W p l e R s m args below meth c H locs cells slots Q (F0 m pc ls (.int (nI b) :: .int (nI a) :: rest)) := lv_imul hx hb hd (by rw [pk_mul]; exact k)
theorem k_m1 (n : Nat) : nI n - nI 1 = nI n + (-1) := by rw [Int32.sub_eq_add_neg]; rfl
theorem k_inc (n : Nat) : nI n + Int32.ofInt 1 = nI (n + 1) := nI_1 n
theorem k_dec (n : Nat) : nI (n + 1) + (-1) = nI n := pk_m1 n
theorem k_n0 : nI 0 + (-1) < 0 := by decide
theorem k_icmp_lt (hx : p.tables.exec = Jvm.exec) (hb : c.code = cc) {a b : Nat} (ha : a < 2 ^ 31) (hb2 : b < 2 ^ 31) {off : Int} {tgt : Nat} (hd : decode cc pc = .ok (.if_icmp .lt off, 3)) (ht : (pc : Int) + off = (tgt : Int)) (kt : a < b → W p l e R s m args below meth c H locs cells slots Q (F0 m tgt ls rest)) (kf : b ≤ a → W p l e R s m args below meth c H locs cells slots Q (F0 m (pc + 3) ls rest)) : W p l e R s m args below meth c H locs cells slots Q (F0 m pc ls (.int (nI b) :: .int (nI a) :: rest)) := lv_icmp_lt hx hb hd ht (fun h => kt ((nI_ltI ha hb2).mp h)) (fun h => kf (Nat.not_lt.mp fun q => h ((nI_ltI ha hb2).mpr q)))
theorem k_icmp_ge (hx : p.tables.exec = Jvm.exec) (hb : c.code = cc) {a b : Nat} (ha : a < 2 ^ 31) (hb2 : b < 2 ^ 31) {off : Int} {tgt : Nat} (hd : decode cc pc = .ok (.if_icmp .ge off, 3)) (ht : (pc : Int) + off = (tgt : Int)) (kt : b ≤ a → W p l e R s m args below meth c H locs cells slots Q (F0 m tgt ls rest)) (kf : a < b → W p l e R s m args below meth c H locs cells slots Q (F0 m (pc + 3) ls rest)) : W p l e R s m args below meth c H locs cells slots Q (F0 m pc ls (.int (nI b) :: .int (nI a) :: rest)) := lv_icmp_ge hx hb hd ht (fun h => kt ((nI_leI hb2 ha).mp h)) (fun h => kf (Nat.not_le.mp fun q => h ((nI_leI hb2 ha).mpr q)))
theorem k_icmp_gt (hx : p.tables.exec = Jvm.exec) (hb : c.code = cc) {a b : Nat} (ha : a < 2 ^ 31) (hb2 : b < 2 ^ 31) {off : Int} {tgt : Nat} (hd : decode cc pc = .ok (.if_icmp .gt off, 3)) (ht : (pc : Int) + off = (tgt : Int)) (kt : b < a → W p l e R s m args below meth c H locs cells slots Q (F0 m tgt ls rest)) (kf : a ≤ b → W p l e R s m args below meth c H locs cells slots Q (F0 m (pc + 3) ls rest)) : W p l e R s m args below meth c H locs cells slots Q (F0 m pc ls (.int (nI b) :: .int (nI a) :: rest)) := lv_icmp_gt hx hb hd ht (fun h => kt ((nI_ltI hb2 ha).mp h)) (fun h => kf (Nat.not_lt.mp fun q => h ((nI_ltI hb2 ha).mpr q)))
theorem k_icmp_le (hx : p.tables.exec = Jvm.exec) (hb : c.code = cc) {a b : Nat} (ha : a < 2 ^ 31) (hb2 : b < 2 ^ 31) {off : Int} {tgt : Nat} (hd : decode cc pc = .ok (.if_icmp .le off, 3)) (ht : (pc : Int) + off = (tgt : Int)) (kt : a ≤ b → W p l e R s m args below meth c H locs cells slots Q (F0 m tgt ls rest)) (kf : b < a → W p l e R s m args below meth c H locs cells slots Q (F0 m (pc + 3) ls rest)) : W p l e R s m args below meth c H locs cells slots Q (F0 m pc ls (.int (nI b) :: .int (nI a) :: rest)) := lv_icmp_le hx hb hd ht (fun h => kt ((nI_leI ha hb2).mp h)) (fun h => kf (Nat.not_le.mp fun q => h ((nI_leI ha hb2).mpr q)))
theorem k_icmp_eq (hx : p.tables.exec = Jvm.exec) (hb : c.code = cc) {a b : Nat} (ha : a < 2 ^ 31) (hb2 : b < 2 ^ 31) {off : Int} {tgt : Nat} (hd : decode cc pc = .ok (.if_icmp .eq off, 3)) (ht : (pc : Int) + off = (tgt : Int)) (kt : a = b → W p l e R s m args below meth c H locs cells slots Q (F0 m tgt ls rest)) (kf : a ≠ b → W p l e R s m args below meth c H locs cells slots Q (F0 m (pc + 3) ls rest)) : W p l e R s m args below meth c H locs cells slots Q (F0 m pc ls (.int (nI b) :: .int (nI a) :: rest)) := lv_icmp_eq hx hb hd ht (fun h => kt ((nI_eq ha hb2).mp h)) (fun h => kf (fun q => h ((nI_eq ha hb2).mpr q)))
theorem k_icmp_ne (hx : p.tables.exec = Jvm.exec) (hb : c.code = cc) {a b : Nat} (ha : a < 2 ^ 31) (hb2 : b < 2 ^ 31) {off : Int} {tgt : Nat} (hd : decode cc pc = .ok (.if_icmp .ne off, 3)) (ht : (pc : Int) + off = (tgt : Int)) (kt : a ≠ b → W p l e R s m args below meth c H locs cells slots Q (F0 m tgt ls rest)) (kf : a = b → W p l e R s m args below meth c H locs cells slots Q (F0 m (pc + 3) ls rest)) : W p l e R s m args below meth c H locs cells slots Q (F0 m pc ls (.int (nI b) :: .int (nI a) :: rest)) := lv_icmp_ne hx hb hd ht (fun h => kt (fun q => h ((nI_eq ha hb2).mpr q))) (fun h => kf ((nI_eq ha hb2).mp h))
theorem k_if_lt (hx : p.tables.exec = Jvm.exec) (hb : c.code = cc) {a : Nat} (ha : a < 2 ^ 31) {off : Int} {tgt : Nat} (hd : decode cc pc = .ok (.ifCond .lt off, 3)) (ht : (pc : Int) + off = (tgt : Int)) (kf : W p l e R s m args below meth c H locs cells slots Q (F0 m (pc + 3) ls rest)) : W p l e R s m args below meth c H locs cells slots Q (F0 m pc ls (.int (nI a) :: rest)) := lv_if_lt hx hb hd ht (fun h => absurd h (nI_pos ha)) (fun _ => kf)
theorem k_if_ge (hx : p.tables.exec = Jvm.exec) (hb : c.code = cc) {a : Nat} (ha : a < 2 ^ 31) {off : Int} {tgt : Nat} (hd : decode cc pc = .ok (.ifCond .ge off, 3)) (ht : (pc : Int) + off = (tgt : Int)) (kt : W p l e R s m args below meth c H locs cells slots Q (F0 m tgt ls rest))  : W p l e R s m args below meth c H locs cells slots Q (F0 m pc ls (.int (nI a) :: rest)) := lv_if_ge hx hb hd ht (fun _ => kt) (fun h => absurd (nI_pos' ha) h)
theorem k_if_eq (hx : p.tables.exec = Jvm.exec) (hb : c.code = cc) {a : Nat} (ha : a < 2 ^ 31) {off : Int} {tgt : Nat} (hd : decode cc pc = .ok (.ifCond .eq off, 3)) (ht : (pc : Int) + off = (tgt : Int)) (kt : a = 0 → W p l e R s m args below meth c H locs cells slots Q (F0 m tgt ls rest)) (kf : 0 < a → W p l e R s m args below meth c H locs cells slots Q (F0 m (pc + 3) ls rest)) : W p l e R s m args below meth c H locs cells slots Q (F0 m pc ls (.int (nI a) :: rest)) := lv_if_eq hx hb hd ht (fun h => kt (Nat.eq_zero_of_not_pos fun q => nI_ne0 q ha h)) (fun h => kf (Nat.pos_of_ne_zero fun q => h (by rw [q]; rfl)))
theorem k_if_ne (hx : p.tables.exec = Jvm.exec) (hb : c.code = cc) {a : Nat} (ha : a < 2 ^ 31) {off : Int} {tgt : Nat} (hd : decode cc pc = .ok (.ifCond .ne off, 3)) (ht : (pc : Int) + off = (tgt : Int)) (kt : 0 < a → W p l e R s m args below meth c H locs cells slots Q (F0 m tgt ls rest)) (kf : a = 0 → W p l e R s m args below meth c H locs cells slots Q (F0 m (pc + 3) ls rest)) : W p l e R s m args below meth c H locs cells slots Q (F0 m pc ls (.int (nI a) :: rest)) := lv_if_ne hx hb hd ht (fun h => kt (Nat.pos_of_ne_zero fun q => h (by rw [q]; rfl))) (fun h => kf (Nat.eq_zero_of_not_pos fun q => nI_ne0 q ha h))
theorem k_if_gt (hx : p.tables.exec = Jvm.exec) (hb : c.code = cc) {a : Nat} (ha : a < 2 ^ 31) {off : Int} {tgt : Nat} (hd : decode cc pc = .ok (.ifCond .gt off, 3)) (ht : (pc : Int) + off = (tgt : Int)) (kt : 0 < a → W p l e R s m args below meth c H locs cells slots Q (F0 m tgt ls rest)) (kf : a = 0 → W p l e R s m args below meth c H locs cells slots Q (F0 m (pc + 3) ls rest)) : W p l e R s m args below meth c H locs cells slots Q (F0 m pc ls (.int (nI a) :: rest)) := lv_if_gt hx hb hd ht (fun h => kt (Nat.pos_of_ne_zero fun q => by rw [q] at h; exact absurd h (by decide))) (fun h => kf (Nat.eq_zero_of_not_pos fun q => h (nI_lt q ha)))
theorem k_if_le (hx : p.tables.exec = Jvm.exec) (hb : c.code = cc) {a : Nat} (ha : a < 2 ^ 31) {off : Int} {tgt : Nat} (hd : decode cc pc = .ok (.ifCond .le off, 3)) (ht : (pc : Int) + off = (tgt : Int)) (kt : a = 0 → W p l e R s m args below meth c H locs cells slots Q (F0 m tgt ls rest)) (kf : 0 < a → W p l e R s m args below meth c H locs cells slots Q (F0 m (pc + 3) ls rest)) : W p l e R s m args below meth c H locs cells slots Q (F0 m pc ls (.int (nI a) :: rest)) := lv_if_le hx hb hd ht (fun h => kt (Nat.eq_zero_of_not_pos fun q => nI_nle q ha h)) (fun h => kf (Nat.pos_of_ne_zero fun q => h (by rw [q]; decide)))
theorem k_ifz_eq (hx : p.tables.exec = Jvm.exec) (hb : c.code = cc) {b : Bool} {off : Int} {tgt : Nat} (hd : decode cc pc = .ok (.ifCond .eq off, 3)) (ht : (pc : Int) + off = (tgt : Int)) (kt : b = false → W p l e R s m args below meth c H locs cells slots Q (F0 m tgt ls rest)) (kf : b = true → W p l e R s m args below meth c H locs cells slots Q (F0 m (pc + 3) ls rest)) : W p l e R s m args below meth c H locs cells slots Q (F0 m pc ls (.int (kb b) :: rest)) := lv_if_eq hx hb hd ht (fun h => kt (kb_0.mp h)) (fun h => kf (by cases b with | true => rfl | false => exact absurd rfl h))
theorem k_ifz_ne (hx : p.tables.exec = Jvm.exec) (hb : c.code = cc) {b : Bool} {off : Int} {tgt : Nat} (hd : decode cc pc = .ok (.ifCond .ne off, 3)) (ht : (pc : Int) + off = (tgt : Int)) (kt : b = true → W p l e R s m args below meth c H locs cells slots Q (F0 m tgt ls rest)) (kf : b = false → W p l e R s m args below meth c H locs cells slots Q (F0 m (pc + 3) ls rest)) : W p l e R s m args below meth c H locs cells slots Q (F0 m pc ls (.int (kb b) :: rest)) := lv_if_ne hx hb hd ht (fun h => kt (by cases b with | true => rfl | false => exact absurd rfl h)) (fun h => kf (kb_0.mp h))
theorem k_ge_nneg {x : Int32} {n : Nat} (h : nI n ≤ x) (hn : n < 2 ^ 31) : ¬ x < 0 := by
  intro q
  rw [Int32.le_iff_toInt_le, nI_toInt hn] at h
  rw [Int32.lt_iff_toInt_lt] at q
  have : (0 : Int32).toInt = 0 := rfl
  omega
theorem k_neg_nge {x : Int32} {n : Nat} (h : x < 0) (hn : n < 2 ^ 31) : ¬ nI n ≤ x := fun q => k_ge_nneg q hn h
theorem k_neg_lt {x : Int32} {n : Nat} (h : x < 0) (hn : n < 2 ^ 31) : x < nI n := by
  rw [Int32.lt_iff_toInt_lt] at h ⊢
  rw [nI_toInt hn]
  have : (0 : Int32).toInt = 0 := rfl
  omega
theorem k_ge_gt {x : Int32} {n k : Nat} (h : nI n ≤ x) (hn : n < 2 ^ 31) (hk : k < n) : nI k < x := by
  rw [Int32.le_iff_toInt_le, nI_toInt hn] at h
  rw [Int32.lt_iff_toInt_lt, nI_toInt (by omega)]
  omega
theorem k_ge_ge {x : Int32} {n k : Nat} (h : nI n ≤ x) (hn : n < 2 ^ 31) (hk : k ≤ n) : nI k ≤ x := by
  rw [Int32.le_iff_toInt_le, nI_toInt hn] at h
  rw [Int32.le_iff_toInt_le, nI_toInt (by omega)]
  omega
end KEnds
theorem k_badIO : ∀ w ∈ (vx_atS RX4 201 "java/lang/IndexOutOfBoundsException" ["java/lang/RuntimeException", "java/lang/Exception"]).filter (fun w => !goodWord w), w ∈ Cond.castable "java/lang/IndexOutOfBoundsException" "java/lang/IndexOutOfBoundsException" :: k_decs.map Cond.declares := by decide +kernel
theorem k_goodIO_197 : ∀ w ∈ Cond.classLink RX4 197 "java/lang/IndexOutOfBoundsException" :: Cond.initialized "java/lang/IndexOutOfBoundsException" :: vx_atS RX4 201 "java/lang/IndexOutOfBoundsException" ["java/lang/RuntimeException", "java/lang/Exception"], vx_ot w = true := by decide +kernel
theorem k_badIA : ∀ w ∈ (vx_atS RX4 42 "java/lang/IllegalArgumentException" ["java/lang/RuntimeException", "java/lang/Exception"]).filter (fun w => !goodWord w), w ∈ Cond.castable "java/lang/IllegalArgumentException" "java/lang/IllegalArgumentException" :: k_decs.map Cond.declares := by decide +kernel
theorem k_goodIA_38 : ∀ w ∈ Cond.classLink RX4 38 "java/lang/IllegalArgumentException" :: Cond.initialized "java/lang/IllegalArgumentException" :: vx_atS RX4 42 "java/lang/IllegalArgumentException" ["java/lang/RuntimeException", "java/lang/Exception"], vx_ot w = true := by decide +kernel
theorem k_badIS : ∀ w ∈ (vx_atS RX4 52 "java/lang/IllegalStateException" ["java/lang/RuntimeException", "java/lang/Exception"]).filter (fun w => !goodWord w), w ∈ Cond.castable "java/lang/IllegalStateException" "java/lang/IllegalStateException" :: k_decs.map Cond.declares := by decide +kernel
theorem k_goodIS_48 : ∀ w ∈ Cond.classLink RX4 48 "java/lang/IllegalStateException" :: Cond.initialized "java/lang/IllegalStateException" :: vx_atS RX4 52 "java/lang/IllegalStateException" ["java/lang/RuntimeException", "java/lang/Exception"], vx_ot w = true := by decide +kernel
end
section
/-! pure words: logs, counts, chains -/
theorem k_up_id {α : Type} (f : Nat → α) (k : Nat) : va_up f k (f k) = f := by
  funext j; by_cases h : j = k <;> simp [va_up, h]
/-- the content of a file behind the first m changes -/
def k_log (lf : Nat → Nat) (lt : Nat → Int32) : Nat → Nat → Int32
  | 0, _ => 0
  | m + 1, f => if lf m = f then lt m else k_log lf lt m f
/-- how many of the first n places are kept -/
def k_cn (K : Nat → Int32) : Nat → Nat
  | 0 => 0
  | n + 1 => k_cn K n + (if K n = -1 then 0 else 1)
abbrev k_cnt (K : Nat → Int32) : Nat := k_cn K 10
theorem k_cn_le (K : Nat → Int32) (n : Nat) : k_cn K n ≤ n := by
  induction n with
  | zero => exact Nat.le_refl _
  | succ n ih => simp only [k_cn]; split <;> omega
theorem k_cn_up_ge {K : Nat → Int32} {j n : Nat} {v : Int32} (h : n ≤ j) : k_cn (va_up K j v) n = k_cn K n := by
  induction n with
  | zero => rfl
  | succ n ih => simp only [k_cn, ih (by omega), va_up_ne K v (show n ≠ j by omega)]
theorem k_cn_new {K : Nat → Int32} {j n : Nat} {v : Int32} (hj : j < n) (hv : v ≠ -1) (hk : K j = -1) : k_cn (va_up K j v) n = k_cn K n + 1 := by
  induction n with
  | zero => omega
  | succ n ih =>
    by_cases h : j = n
    · subst h
      simp only [k_cn, k_cn_up_ge (Nat.le_refl j), va_up_self, if_neg hv, if_pos hk]
    · simp only [k_cn, ih (by omega), va_up_ne K v (show n ≠ j by omega)]
      omega
theorem k_cn_old {K : Nat → Int32} {j n : Nat} {v : Int32} (hv : v ≠ -1) (hk : K j ≠ -1) : k_cn (va_up K j v) n = k_cn K n := by
  induction n with
  | zero => rfl
  | succ n ih =>
    by_cases h : n = j
    · subst h
      simp only [k_cn, ih, va_up_self, if_neg hv, if_neg hk]
    · simp only [k_cn, ih, va_up_ne K v h]
theorem k_cnt_new {K : Nat → Int32} {j : Nat} {v : Int32} (hj : j < 10) (hv : v ≠ -1) (hk : K j = -1) : k_cnt (va_up K j v) = k_cnt K + 1 := k_cn_new hj hv hk
theorem k_cnt_old {K : Nat → Int32} {j : Nat} {v : Int32} (hv : v ≠ -1) (hk : K j ≠ -1) : k_cnt (va_up K j v) = k_cnt K := k_cn_old hv hk
/-- whether a file was changed among the changes a .. i - 1 -/
def k_chd (lf : Nat → Nat) (a : Nat) : Nat → Nat → Bool
  | 0, _ => false
  | i + 1, f => k_chd lf a i f || (decide (a ≤ i) && decide (lf i = f))
theorem k_chd_0 {lf : Nat → Nat} {a f : Nat} : ∀ {i : Nat}, i ≤ a → k_chd lf a i f = false := by
  intro i
  induction i with
  | zero => intro _; rfl
  | succ i ih => intro h; simp only [k_chd, ih (by omega), Bool.false_or]; simp; omega
theorem k_ka_step {K F O : Nat → Int32} {i : Nat} (h : ∀ f, K f = if f < i then F f else O f) : ∀ f, va_up K i (F i) f = if f < i + 1 then F f else O f := by
  intro f
  by_cases hf : f = i
  · subst hf; simp [va_up]
  · rw [va_up_ne _ _ hf, h]
    by_cases h2 : f < i
    · rw [if_pos h2, if_pos (by omega)]
    · rw [if_neg h2, if_neg (by omega)]
theorem k_kc_step {K F O : Nat → Int32} {lf : Nat → Nat} {a i : Nat} (hai : a ≤ i) (h : ∀ f, K f = if k_chd lf a i f = true then F f else O f) : ∀ f, va_up K (lf i) (F (lf i)) f = if k_chd lf a (i + 1) f = true then F f else O f := by
  intro f
  by_cases hf : f = lf i
  · subst hf; simp [va_up, k_chd, hai]
  · rw [va_up_ne _ _ hf, h]
    simp only [k_chd, show decide (lf i = f) = false from decide_eq_false (fun q => hf q.symm), Bool.and_false, Bool.or_false]
/-- the chain of a copy, itself first -/
def k_cl (bs : Nat → Option Nat) (k : Nat) : List Nat := k :: (match bs k with | none => [] | some b => if h : b < k then k_cl bs b else [])
termination_by k
def k_clo (bs : Nat → Option Nat) : Option Nat → List Nat
  | none => []
  | some k => k_cl bs k
theorem k_clo_some {bs : Nat → Option Nat} {k : Nat} (hd : ∀ b, bs k = some b → b < k) : k_clo bs (some k) = k :: k_clo bs (bs k) := by
  show k_cl bs k = _
  rw [k_cl]
  cases h : bs k with
  | none => rfl
  | some b => simp only [dif_pos (hd b h)]; rfl
theorem k_cl_none {bs : Nat → Option Nat} {k : Nat} (h : bs k = none) : k_cl bs k = [k] := by
  rw [k_cl, h]
theorem k_cl_cons {bs : Nat → Option Nat} {k b : Nat} (h : bs k = some b) (hb : b < k) : k_cl bs k = k :: k_cl bs b := by
  rw [k_cl, h]; simp only [dif_pos hb]
theorem k_cl_le {bs : Nat → Option Nat} : ∀ (k j : Nat), j ∈ k_cl bs k → j ≤ k := by
  intro k
  induction k using Nat.strongRecOn with
  | ind k ih =>
    intro j hj
    rw [k_cl] at hj
    rcases List.mem_cons.mp hj with h | h
    · omega
    · cases hb : bs k with
      | none => rw [hb] at h; cases h
      | some b =>
        rw [hb] at h
        by_cases hlt : b < k
        · simp only [dif_pos hlt] at h
          have := ih b hlt j h
          omega
        · simp only [dif_neg hlt] at h; cases h
/-- the first content kept along a chain -/
def k_fk (K : Nat → Nat → Int32) (f : Nat) : List Nat → Int32
  | [] => -1
  | k :: r => if K k f = -1 then k_fk K f r else K k f
/-- how many of the first n are so -/
def k_cb (p : Nat → Bool) : Nat → Nat
  | 0 => 0
  | n + 1 => if p n = true then k_cb p n + 1 else k_cb p n
theorem k_cb_le (p : Nat → Bool) (n : Nat) : k_cb p n ≤ n := by
  induction n with
  | zero => exact Nat.le_refl _
  | succ n ih => simp only [k_cb]; split <;> omega
/-- the sum of v over those of the first n that are so -/
def k_sm (p : Nat → Bool) (v : Nat → Nat) : Nat → Nat
  | 0 => 0
  | n + 1 => if p n = true then k_sm p v n + v n else k_sm p v n
theorem k_sm_le {p : Nat → Bool} {v : Nat → Nat} {M : Nat} : ∀ (n : Nat), (∀ k, k < n → p k = true → v k ≤ M) → k_sm p v n ≤ n * M := by
  intro n
  induction n with
  | zero => intro _; simp [k_sm]
  | succ n ih =>
    intro h
    have h1 := ih (fun k hk hp => h k (by omega) hp)
    have h3 : (n + 1) * M = n * M + M := Nat.succ_mul n M
    simp only [k_sm]
    split
    · rename_i hp
      have h2 := h n (by omega) hp
      omega
    · omega
def k_pd (kd d : Nat) : Nat := if kd = 1 then d / 7 else if kd = 2 then d / 28 else d
/-- whether a copy is chosen when one goes from the back over the first i, so many periods left, the last period being time -/
def k_sel (th : Nat → Bool) (pd : Nat → Nat) : Nat → Nat → Int32 → Nat → Bool
  | 0, _, _, _ => false
  | i + 1, left, time, k => if left = 0 then false else if th i = true ∧ ¬ nI (pd i) = time then (decide (k = i) || k_sel th pd i (left - 1) (nI (pd i)) k) else k_sel th pd i left time k
theorem k_sel_0 (th : Nat → Bool) (pd : Nat → Nat) (i : Nat) (time : Int32) (k : Nat) : k_sel th pd i 0 time k = false := by
  cases i <;> simp [k_sel]
theorem k_sel_y {th : Nat → Bool} {pd : Nat → Nat} {i left : Nat} {time : Int32} {k : Nat} (hl : 0 < left) (h : th i = true) (ht : ¬ nI (pd i) = time) : k_sel th pd (i + 1) left time k = (decide (k = i) || k_sel th pd i (left - 1) (nI (pd i)) k) := by
  simp only [k_sel, if_neg (Nat.pos_iff_ne_zero.mp hl), if_pos (And.intro h ht)]
theorem k_sel_n {th : Nat → Bool} {pd : Nat → Nat} {i left : Nat} {time : Int32} {k : Nat} (h : ¬ (th i = true ∧ ¬ nI (pd i) = time)) : k_sel th pd (i + 1) left time k = k_sel th pd i left time k := by
  by_cases hl : left = 0
  · subst hl; rw [k_sel_0, k_sel_0]
  · simp only [k_sel, if_neg hl, if_neg h]
/-- promised by one of the three rules, over what was marked before -/
def k_P (th : Nat → Bool) (on : Nat → Nat) (N r1 r2 r3 : Nat) (k : Nat) : Bool := k_sel th (fun j => k_pd 0 (on j)) N r1 (-1) k || (k_sel th (fun j => k_pd 1 (on j)) N r2 (-1) k || k_sel th (fun j => k_pd 2 (on j)) N r3 (-1) k)
/-- needed: in the chain of a promised one among the first i -/
def k_nd (th P : Nat → Bool) (bs : Nat → Option Nat) : Nat → Nat → Bool
  | 0, _ => false
  | i + 1, j => k_nd th P bs i j || (th i && P i && (k_cl bs i).contains j)
/-- the latest day of a proved copy among the first n -/
def k_lp (p : Nat → Bool) (on : Nat → Nat) : Nat → Int32
  | 0 => -1
  | n + 1 => if p n = true then (if k_lp p on n < nI (on n) then nI (on n) else k_lp p on n) else k_lp p on n
/-- held from the back -/
def k_hl (th : Nat → Bool) (bs : Nat → Option Nat) : Nat → (Nat → Bool) → Nat → Bool
  | 0, hd => hd
  | i + 1, hd => k_hl th bs i (if th i = true ∧ hd i = true then (match bs i with | none => hd | some b => va_up hd b true) else hd)
theorem k_pv_step {l : List Nat} {k : Nat} {v : Bool} {PV TG : Nat → Bool} (h : ∀ j, TG j = if (k :: l).contains j = true then v else PV j) : ∀ j, TG j = if l.contains j = true then v else va_up PV k v j := by
  intro j
  rw [h j, List.contains_cons]
  by_cases hj : j = k
  · subst hj; simp [va_up]
  · rw [va_up_ne _ _ hj, show (j == k) = false from beq_eq_false_iff_ne.mpr hj, Bool.false_or]
theorem k_nd_closed {th nd : Nat → Bool} {bs : Nat → Option Nat} (hth : ∀ j b, th j = true → bs j = some b → th b = true) (hnc : ∀ j b, th j = true → nd j = true → bs j = some b → nd b = true) (hd : ∀ j b, th j = true → bs j = some b → b < j) : ∀ k, th k = true → nd k = true → ∀ j, j ∈ k_cl bs k → nd j = true := by
  intro k
  induction k using Nat.strongRecOn with
  | ind k ih =>
    intro h1 h2 j hj
    cases hb : bs k with
    | none =>
      rw [k_cl_none hb] at hj
      rw [List.mem_singleton.mp hj]; exact h2
    | some b =>
      rw [k_cl_cons hb (hd k b h1 hb)] at hj
      rcases List.mem_cons.mp hj with h | h
      · rw [h]; exact h2
      · exact ih b (hd k b h1 hb) (hth k b h1 hb) (hnc k b h1 h2 hb) j h
theorem k_nd_step {l : List Nat} {k : Nat} {N TG : Nat → Bool} (h : ∀ j, TG j = (N j || (k :: l).contains j)) : ∀ j, TG j = (va_up N k true j || l.contains j) := by
  intro j
  rw [h j, List.contains_cons]
  by_cases hj : j = k
  · subst hj; simp [va_up]
  · rw [va_up_ne _ _ hj, show (j == k) = false from beq_eq_false_iff_ne.mpr hj, Bool.false_or]
theorem k_nd_stop {l : List Nat} {N TG : Nat → Bool} (h : ∀ j, TG j = (N j || l.contains j)) (hc : ∀ j, j ∈ l → N j = true) : N = TG := by
  funext j
  rw [h j]
  by_cases hj : j ∈ l
  · rw [hc j hj]; rfl
  · rw [show l.contains j = false by simpa using hj, Bool.or_false]
theorem k_nd_h1 {N nd : Nat → Bool} {k : Nat} {nx : Option Nat} (h1 : ∀ j, N j = true → ∀ q, some k = some q → j ≤ q → nd j = true) (hd : ∀ b, nx = some b → b < k) : ∀ j, va_up N k true j = true → ∀ q, nx = some q → j ≤ q → nd j = true := by
  intro j hj q hq hle
  have := hd q hq
  rw [va_up_ne _ _ (show j ≠ k by omega)] at hj
  exact h1 j hj k rfl (by omega)
theorem k_nd_h2 {N nd : Nat → Bool} {k : Nat} (h2 : ∀ j, nd j = true → N j = true) : ∀ j, nd j = true → va_up N k true j = true := by
  intro j hj
  by_cases h : j = k
  · subst h; exact va_up_self _ _ _
  · rw [va_up_ne _ _ h]; exact h2 j hj
/-- nobody beside a day is on call on it -/
def k_rest (p : Nat → Nat) (d : Nat) : Bool := (decide (d = 0) || decide (p d ≠ p (d - 1))) && (decide (d = 364) || decide (p d ≠ p (d + 1)))
theorem k_rest_0 (p : Nat → Nat) : k_rest p 0 = decide (p 0 ≠ p (0 + 1)) := by simp [k_rest]
theorem k_rest_m (p : Nat → Nat) {e : Nat} (h : e + 1 < 364) : k_rest p (e + 1) = (decide (p (e + 1) ≠ p (e + 1 - 1)) && decide (p (e + 1) ≠ p (e + 1 + 1))) := by
  simp [k_rest, show ¬ e = 363 by omega]
theorem k_rest_h (p : Nat → Nat) : k_rest p 364 = decide (p 364 ≠ p (364 - 1)) := by simp [k_rest]
theorem k_nm1 {a : Nat} (h : a < 2 ^ 31) : ¬ nI a = -1 := by
  intro q
  have h1 := nI_toInt h
  rw [q] at h1
  have : (-1 : Int32).toInt = -1 := rfl
  omega
abbrev k_ex (p : Nat → Nat) (j k : Nat) : Nat → Nat := va_up (va_up p j (p k)) k (p j)
theorem k_ex_lt {p : Nat → Nat} {j k M N : Nat} (hp : ∀ i, i < N → p i < M) (hj : j < N) (hk : k < N) : ∀ i, i < N → k_ex p j k i < M := by
  intro i hi
  simp only [k_ex, va_up]
  split
  · exact hp j hj
  · split
    · exact hp k hk
    · exact hp i hi
theorem k_ex_back (p : Nat → Nat) (j k : Nat) : va_up (va_up (va_up (va_up p j (p k)) k (p j)) j (va_up (va_up p j (p k)) k (p j) k)) k (va_up (va_up p j (p k)) k (p j) j) = p := by
  funext i
  simp only [va_up]
  by_cases h1 : i = k
  · subst h1
    by_cases h2 : j = i
    · subst h2; simp
    · simp [h2]
  · by_cases h2 : i = j
    · subst h2; simp [h1]
    · simp [h1, h2]
/-- who answers, from day d on, i days at most -/
def k_al (p : Nat → Nat) (an : Nat) : Nat → Nat → Int32
  | 0, _ => -1
  | i + 1, d => if an.testBit (p d) = true then nI (p d) else k_al p an i (d + 1)
theorem k_and : ∀ an, an < 32 → ∀ q, q < 5 → ((nI an &&& (nI 1 <<< (nI q &&& 31))) = 0 ↔ an.testBit q = false) := by decide +kernel
/-- the latest one that is there, among the first n -/
def k_la (th : Nat → Bool) : Nat → Option Nat
  | 0 => none
  | n + 1 => if th n = true then some n else k_la th n
theorem k_sel_by {th : Nat → Bool} {pd : Nat → Nat} {r lf : Nat} {z : Int32} {Pm TG : Nat → Bool} (h : ∀ j, TG j = (Pm j || k_sel th pd (r + 1) lf z j)) (hl : 0 < lf) (ht : th r = true) (hz : ¬ nI (pd r) = z) : ∀ j, TG j = (va_up Pm r true j || k_sel th pd r (lf - 1) (nI (pd r)) j) := by
  intro j
  rw [h j, k_sel_y hl ht hz]
  by_cases hj : j = r
  · subst hj; simp [va_up]
  · rw [va_up_ne _ _ hj, decide_eq_false hj, Bool.false_or]
def k_Pm (th pm : Nat → Bool) (on : Nat → Nat) (r1 r2 r3 : Nat) : Nat → Bool := fun j => (if th j = true then false else pm j) || k_P th on 60 r1 r2 r3 j
def k_N0 (th nd : Nat → Bool) : Nat → Bool := fun j => if th j = true then false else nd j
def k_Nm (th nd P : Nat → Bool) (bs : Nat → Option Nat) : Nat → Bool := fun j => k_N0 th nd j || k_nd th P bs 60 j
theorem k_cl_next {bs : Nat → Option Nat} {j b : Nat} (hj : bs j = some b) (hb : b < j) : ∀ k, j ∈ k_cl bs k → b ∈ k_cl bs k := by
  intro k
  induction k using Nat.strongRecOn with
  | ind k ih =>
    intro h
    cases hk : bs k with
    | none =>
      rw [k_cl_none hk] at h
      rw [List.mem_singleton.mp h] at hj
      rw [hk] at hj; cases hj
    | some q =>
      by_cases hq : q < k
      · rw [k_cl_cons hk hq] at h ⊢
        rcases List.mem_cons.mp h with h1 | h1
        · rw [h1] at hj
          rw [hk] at hj; cases hj
          refine List.mem_cons_of_mem _ ?_
          rw [k_cl]; exact List.mem_cons_self
        · exact List.mem_cons_of_mem _ (ih q hq h1)
      · rw [k_cl, hk] at h
        simp only [dif_neg hq] at h
        rw [List.mem_singleton.mp h] at hj hb
        rw [hk] at hj; cases hj; omega
theorem k_nd_next {th P : Nat → Bool} {bs : Nat → Option Nat} {j b : Nat} (hj : bs j = some b) (hb : b < j) : ∀ i, k_nd th P bs i j = true → k_nd th P bs i b = true := by
  intro i
  induction i with
  | zero => intro h; exact h
  | succ i ih =>
    intro h
    simp only [k_nd, Bool.or_eq_true, Bool.and_eq_true, List.contains_iff_mem] at h ⊢
    rcases h with h | ⟨h1, h2⟩
    · exact Or.inl (ih h)
    · exact Or.inr ⟨h1, k_cl_next hj hb i h2⟩
theorem k_nd_y {th P : Nat → Bool} {bs : Nat → Option Nat} {i : Nat} (h1 : th i = true) (h2 : P i = true) (j : Nat) : k_nd th P bs (i + 1) j = (k_nd th P bs i j || (k_cl bs i).contains j) := by
  simp only [k_nd, h1, h2, Bool.true_and]
theorem k_nd_n {th P : Nat → Bool} {bs : Nat → Option Nat} {i : Nat} (h : (th i && P i) = false) (j : Nat) : k_nd th P bs (i + 1) j = k_nd th P bs i j := by
  simp only [k_nd, h, Bool.false_and, Bool.or_false]
theorem k_nd_cc {th nd P N : Nat → Bool} {bs : Nat → Option Nat} {i : Nat} (hN : ∀ j, N j = (k_N0 th nd j || k_nd th P bs i j)) (hd : ∀ j b, th j = true → bs j = some b → b < j) : ∀ j b, th j = true → N j = true → bs j = some b → N b = true := by
  intro j b h1 h2 h3
  rw [hN j, k_N0, if_pos h1, Bool.false_or] at h2
  rw [hN b, k_nd_next h3 (hd j b h1 h3) i h2, Bool.or_true]
theorem k_rs {th f F : Nat → Bool} {v : Nat → Bool} {i : Nat} (h : ∀ j, F j = if (decide (j < i) && th j) = true then v j else f j) (ht : th i = true) {x : Bool} (hx : v i = x) : ∀ j, va_up F i x j = if (decide (j < i + 1) && th j) = true then v j else f j := by
  intro j
  by_cases hj : j = i
  · subst hj; rw [va_up_self, ht, ← hx]; simp
  · rw [va_up_ne _ _ hj, h j, show decide (j < i + 1) = decide (j < i) from by congr 1; exact propext ⟨fun q => by omega, fun q => by omega⟩]
theorem k_rs_n {th f F : Nat → Bool} {v : Nat → Bool} {i : Nat} (h : ∀ j, F j = if (decide (j < i) && th j) = true then v j else f j) (ht : th i = false) : ∀ j, F j = if (decide (j < i + 1) && th j) = true then v j else f j := by
  intro j
  rw [h j]
  by_cases hj : j = i
  · subst hj; rw [ht]; simp
  · rw [show decide (j < i + 1) = decide (j < i) from by congr 1; exact propext ⟨fun q => by omega, fun q => by omega⟩]
theorem k_rs_0 {th f : Nat → Bool} {v : Nat → Bool} : ∀ j, f j = if (decide (j < 0) && th j) = true then v j else f j := by
  intro j; simp
theorem k_rs_e {th f F : Nat → Bool} {v : Nat → Bool} {i M : Nat} (h : ∀ j, F j = if (decide (j < i) && th j) = true then v j else f j) (hw : ∀ j, th j = true → j < M) (hM : M ≤ i) : F = fun j => if th j = true then v j else f j := by
  funext j
  rw [h j]
  by_cases ht : th j = true
  · rw [ht, show decide (j < i) = true from decide_eq_true (by have := hw j ht; omega)]; rfl
  · rw [if_neg ht, if_neg (by rw [Bool.and_eq_true]; exact fun q => ht q.2)]
/-- held by itself -/
def k_H0 (th nd : Nat → Bool) (on : Nat → Nat) (hd : Nat → Bool) (z : Int32) : Nat → Bool := fun j => if th j = true then (nd j || decide (z ≤ nI (on j))) else hd j
def k_Hd (th nd : Nat → Bool) (bs : Nat → Option Nat) (on : Nat → Nat) (hd : Nat → Bool) (z : Int32) : Nat → Bool := k_hl th bs 60 (k_H0 th nd on hd z)
theorem k_hl_y {th hd : Nat → Bool} {bs : Nat → Option Nat} {i b : Nat} (h1 : th i = true) (h2 : hd i = true) (h3 : bs i = some b) : k_hl th bs (i + 1) hd = k_hl th bs i (va_up hd b true) := by
  simp only [k_hl, h1, h2, h3, and_self, if_true]
theorem k_hl_z {th hd : Nat → Bool} {bs : Nat → Option Nat} {i : Nat} (h3 : bs i = none) : k_hl th bs (i + 1) hd = k_hl th bs i hd := by
  simp only [k_hl, h3]; split <;> rfl
theorem k_hl_n {th hd : Nat → Bool} {bs : Nat → Option Nat} {i : Nat} (h : ¬ (th i = true ∧ hd i = true)) : k_hl th bs (i + 1) hd = k_hl th bs i hd := by
  simp only [k_hl, if_neg h]
theorem k_thi {th th' hd : Nat → Bool} {i : Nat} (h : ∀ j, th' j = if j < i then (th j && hd j) else th j) (hb : th' i = true) : th i = true := by
  rw [h i, if_neg (Nat.lt_irrefl i)] at hb; exact hb
theorem k_th_off {th th' hd : Nat → Bool} {i : Nat} (h : ∀ j, th' j = if j < i then (th j && hd j) else th j) (hh : hd i = false) : ∀ j, va_up th' i false j = if j < i + 1 then (th j && hd j) else th j := by
  intro j
  by_cases hj : j = i
  · subst hj; rw [va_up_self, if_pos (by omega), hh, Bool.and_false]
  · rw [va_up_ne _ _ hj, h j]
    by_cases h2 : j < i
    · rw [if_pos h2, if_pos (by omega)]
    · rw [if_neg h2, if_neg (by omega)]
theorem k_th_on {th th' hd : Nat → Bool} {i : Nat} (h : ∀ j, th' j = if j < i then (th j && hd j) else th j) (hh : th i = false ∨ hd i = true) : ∀ j, th' j = if j < i + 1 then (th j && hd j) else th j := by
  intro j
  rw [h j]
  by_cases hj : j = i
  · subst hj; rw [if_neg (by omega), if_pos (by omega)]
    rcases hh with q | q
    · rw [q]; rfl
    · rw [q, Bool.and_true]
  · by_cases h2 : j < i
    · rw [if_pos h2, if_pos (by omega)]
    · rw [if_neg h2, if_neg (by omega)]
theorem k_th_e {th th' hd : Nat → Bool} {i M : Nat} (h : ∀ j, th' j = if j < i then (th j && hd j) else th j) (hw : ∀ j, th j = true → j < M) (hM : M ≤ i) : th' = fun j => th j && hd j := by
  funext j
  rw [h j]
  by_cases h2 : j < i
  · rw [if_pos h2]
  · rw [if_neg h2]
    cases hb : th j with
    | false => rfl
    | true => have := hw j hb; omega
theorem k_cb_y {p : Nat → Bool} {i : Nat} (h : p i = true) : k_cb p (i + 1) = k_cb p i + 1 := by simp only [k_cb, if_pos h]
theorem k_cb_n {p : Nat → Bool} {i : Nat} (h : p i = false) : k_cb p (i + 1) = k_cb p i := by simp only [k_cb, h]; rfl
theorem k_sm_y {p : Nat → Bool} {v : Nat → Nat} {i : Nat} (h : p i = true) : k_sm p v (i + 1) = k_sm p v i + v i := by simp only [k_sm, if_pos h]
theorem k_sm_n {p : Nat → Bool} {v : Nat → Nat} {i : Nat} (h : p i = false) : k_sm p v (i + 1) = k_sm p v i := by simp only [k_sm, h]; rfl
theorem k_lp_y {p : Nat → Bool} {on : Nat → Nat} {i : Nat} (h : p i = true) : k_lp p on (i + 1) = (if k_lp p on i < nI (on i) then nI (on i) else k_lp p on i) := by simp only [k_lp, if_pos h]
theorem k_lp_n {p : Nat → Bool} {on : Nat → Nat} {i : Nat} (h : p i = false) : k_lp p on (i + 1) = k_lp p on i := by simp only [k_lp, h]; rfl
theorem k_or_t {nd : Nat → Bool} {on : Nat → Nat} {z : Int32} {i : Nat} (h : nd i = true ∨ ¬ nI (on i) < z) : (fun j => nd j || decide (z ≤ nI (on j))) i = true := by
  show (nd i || decide (z ≤ nI (on i))) = true
  rcases h with h | h
  · rw [h]; rfl
  · rw [decide_eq_true (Int32.not_lt.mp h), Bool.or_true]
theorem k_or_f {nd : Nat → Bool} {on : Nat → Nat} {z : Int32} {i : Nat} (h : nd i = false) (h2 : nI (on i) < z) : (fun j => nd j || decide (z ≤ nI (on j))) i = false := by
  show (nd i || decide (z ≤ nI (on i))) = false
  rw [h, decide_eq_false (Int32.not_le.mpr h2)]; rfl
end
section
abbrev rm_X1_contentNow : Room := { frames := 0, cells := 0, slots := 0, locals := 0 }
set_option maxRecDepth 100000 in
set_option maxHeartbeats 4000000 in
/-- the content of a file that is there -/
theorem c_X1_contentNow (l : Launch) (hlt : l.stackTraces = false) (g : k_g) (ad : k_AD) (t : k_T) (j : Nat) (hj : j < 10) : Met l yX1_contentNow wsX1_contentNow rm_X1_contentNow (va_Pc [.ref (ad 1 0), .int (nI j)] (k_I g (k_ct g ad t) ad)) (va_Qi (fun r u => r = f_c t j ∧ u = t) (fun u U => k_H g ad u U.heap) (k_A g)) 0 0 (k_A g) := by
  refine k_met (cc := cX1_contentNow) (maxL := 2) (ret := (some .int)) (by decide) rfl (Nat.le_of_ble_eq_true rfl) (fun p e s m args below meth c Q ls hQ hx hb hr hml hts hown hlk hin hK hZ hN hW hS hl => ?_)
  have hown : s.vm.findClass RX1 = some m.cls := hown
  have hW : k_H g ad t s.heap := hW
  have hl : lv_has ls 2 [(0, .ref (ad 1 0)), (1, .int (nI j))] := hl
  have hinX1 : ∀ w ∈ wsX10, w ∈ wsX1_contentNow := by decide +kernel
  refine lv_iload_n hx hb dX1_contentNow_0 rfl (lv_at hl 1 rfl) ?_
  refine k_if_lt (tgt := 22) hx hb (by omega) dX1_contentNow_1 (by decide) ?_
  refine lv_iload_n hx hb dX1_contentNow_4 rfl (lv_at hl 1 rfl) ?_
  refine lv_aload_n hx hb dX1_contentNow_5 rfl (lv_at hl 0 rfl) ?_
  refine k_get (own := RX1) (C := RX1) (T := TX1) (N := 4) hx hb hts hinX1 hown hK hW (kc_1 g ad t) rfl 0 (by decide) (hts (.fieldLink RX1 9 "DrillVault$Files" "contents" "[I") (by decide +kernel)) rfl (v := .ref (ad 2 0)) rfl dX1_contentNow_6 ?_
  refine k_alen hx hb hK hW 0 rfl (kc_2 g ad t) (v := nI 10) rfl dX1_contentNow_9 ?_
  refine k_icmp_ge (tgt := 22) hx hb (a := j) (b := 10) (by omega) (by decide) dX1_contentNow_10 (by decide) (fun h_10 => absurd h_10 (by omega)) (fun h_10 => ?_)
  refine lv_aload_n hx hb dX1_contentNow_13 rfl (lv_at hl 0 rfl) ?_
  refine k_get (own := RX1) (C := RX1) (T := TX1) (N := 4) hx hb hts hinX1 hown hK hW (kc_1 g ad t) rfl 0 (by decide) (hts (.fieldLink RX1 9 "DrillVault$Files" "contents" "[I") (by decide +kernel)) rfl (v := .ref (ad 2 0)) rfl dX1_contentNow_14 ?_
  refine lv_iload_n hx hb dX1_contentNow_17 rfl (lv_at hl 1 rfl) ?_
  refine k_iald hx hb hK hW (kc_2 g ad t) j rfl (by omega) (by decide) dX1_contentNow_18 ?_
  refine lv_goto (tgt := 23) hx hb dX1_contentNow_19 (by decide) ?_
  exact k_ri hQ hx hb hr hlk hS hW ⟨rfl, rfl⟩ (Nat.le_of_ble_eq_true rfl) (Nat.le_of_ble_eq_true rfl) dX1_contentNow_23
abbrev rm_X1_write : Room := { frames := 0, cells := 0, slots := 0, locals := 0 }
set_option maxRecDepth 100000 in
set_option maxHeartbeats 4000000 in
theorem c_X1_write (l : Launch) (hlt : l.stackTraces = false) (g : k_g) (ad : k_AD) (t : k_T) (j : Nat) (v : Int32) (hj : j < 10) (hn : f_n t < 300) : Met l yX1_write wsX1_write rm_X1_write (va_Pc [.ref (ad 1 0), .int (nI j), .int v] (k_I g (k_ct g ad t) ad)) (va_Qv (fun u => u = set_f_n (set_f_lt (set_f_lf (set_f_c t (va_up (f_c t) j v)) (va_up (f_lf t) (f_n t) j)) (va_up (f_lt t) (f_n t) v)) (f_n t + 1)) (fun u U => k_H g ad u U.heap) (k_A g)) 0 0 (k_A g) := by
  refine k_met (cc := cX1_write) (maxL := 3) (ret := none) (by decide) rfl (Nat.le_of_ble_eq_true rfl) (fun p e s m args below meth c Q ls hQ hx hb hr hml hts hown hlk hin hK hZ hN hW hS hl => ?_)
  have hown : s.vm.findClass RX1 = some m.cls := hown
  have hW : k_H g ad t s.heap := hW
  have hl : lv_has ls 3 [(0, .ref (ad 1 0)), (1, .int (nI j)), (2, .int v)] := hl
  have hinX1 : ∀ w ∈ wsX10, w ∈ wsX1_write := by decide +kernel
  refine lv_iload_n hx hb dX1_write_0 rfl (lv_at hl 1 rfl) ?_
  refine k_if_lt (tgt := 13) hx hb (by omega) dX1_write_1 (by decide) ?_
  refine lv_iload_n hx hb dX1_write_4 rfl (lv_at hl 1 rfl) ?_
  refine lv_aload_n hx hb dX1_write_5 rfl (lv_at hl 0 rfl) ?_
  refine k_get (own := RX1) (C := RX1) (T := TX1) (N := 4) hx hb hts hinX1 hown hK hW (kc_1 g ad t) rfl 0 (by decide) (hts (.fieldLink RX1 9 "DrillVault$Files" "contents" "[I") (by decide +kernel)) rfl (v := .ref (ad 2 0)) rfl dX1_write_6 ?_
  refine k_alen hx hb hK hW 0 rfl (kc_2 g ad t) (v := nI 10) rfl dX1_write_9 ?_
  refine k_icmp_lt (tgt := 14) hx hb (a := j) (b := 10) (by omega) (by decide) dX1_write_10 (by decide) (fun h_10 => ?_) (fun h_10 => absurd h_10 (by omega))
  refine lv_aload_n hx hb dX1_write_14 rfl (lv_at hl 0 rfl) ?_
  refine k_get (own := RX1) (C := RX1) (T := TX1) (N := 4) hx hb hts hinX1 hown hK hW (kc_1 g ad t) rfl 3 (by decide) (hts (.fieldLink RX1 21 "DrillVault$Files" "changes" "I") (by decide +kernel)) rfl (v := .int (nI (f_n t))) rfl dX1_write_15 ?_
  refine k_if_lt (tgt := 45) hx hb (by omega) dX1_write_18 (by decide) ?_
  refine lv_aload_n hx hb dX1_write_21 rfl (lv_at hl 0 rfl) ?_
  refine k_get (own := RX1) (C := RX1) (T := TX1) (N := 4) hx hb hts hinX1 hown hK hW (kc_1 g ad t) rfl 3 (by decide) (hts (.fieldLink RX1 21 "DrillVault$Files" "changes" "I") (by decide +kernel)) rfl (v := .int (nI (f_n t))) rfl dX1_write_22 ?_
  refine lv_aload_n hx hb dX1_write_25 rfl (lv_at hl 0 rfl) ?_
  refine k_get (own := RX1) (C := RX1) (T := TX1) (N := 4) hx hb hts hinX1 hown hK hW (kc_1 g ad t) rfl 1 (by decide) (hts (.fieldLink RX1 15 "DrillVault$Files" "changedFiles" "[I") (by decide +kernel)) rfl (v := .ref (ad 3 0)) rfl dX1_write_26 ?_
  refine k_alen hx hb hK hW 0 rfl (kc_3 g ad t) (v := nI 300) rfl dX1_write_29 ?_
  refine k_icmp_ge (tgt := 45) hx hb (a := f_n t) (b := 300) (by omega) (by decide) dX1_write_30 (by decide) (fun h_30 => absurd h_30 (by omega)) (fun h_30 => ?_)
  refine lv_aload_n hx hb dX1_write_33 rfl (lv_at hl 0 rfl) ?_
  refine k_get (own := RX1) (C := RX1) (T := TX1) (N := 4) hx hb hts hinX1 hown hK hW (kc_1 g ad t) rfl 3 (by decide) (hts (.fieldLink RX1 21 "DrillVault$Files" "changes" "I") (by decide +kernel)) rfl (v := .int (nI (f_n t))) rfl dX1_write_34 ?_
  refine lv_aload_n hx hb dX1_write_37 rfl (lv_at hl 0 rfl) ?_
  refine k_get (own := RX1) (C := RX1) (T := TX1) (N := 4) hx hb hts hinX1 hown hK hW (kc_1 g ad t) rfl 2 (by decide) (hts (.fieldLink RX1 18 "DrillVault$Files" "changedTo" "[I") (by decide +kernel)) rfl (v := .ref (ad 4 0)) rfl dX1_write_38 ?_
  refine k_alen hx hb hK hW 0 rfl (kc_4 g ad t) (v := nI 300) rfl dX1_write_41 ?_
  refine k_icmp_lt (tgt := 46) hx hb (a := f_n t) (b := 300) (by omega) (by decide) dX1_write_42 (by decide) (fun h_42 => ?_) (fun h_42 => absurd h_42 (by omega))
  refine lv_aload_n hx hb dX1_write_46 rfl (lv_at hl 0 rfl) ?_
  refine k_get (own := RX1) (C := RX1) (T := TX1) (N := 4) hx hb hts hinX1 hown hK hW (kc_1 g ad t) rfl 0 (by decide) (hts (.fieldLink RX1 9 "DrillVault$Files" "contents" "[I") (by decide +kernel)) rfl (v := .ref (ad 2 0)) rfl dX1_write_47 ?_
  refine lv_iload_n hx hb dX1_write_50 rfl (lv_at hl 1 rfl) ?_
  refine lv_iload_n hx hb dX1_write_51 rfl (lv_at hl 2 rfl) ?_
  refine k_iast hx hb hK hW hS (kc_2 g ad t) j rfl (by omega) (by decide) dX1_write_52 (fun H locs hW hS => ?_)
  have hW : k_H g ad (set_f_c t (va_up (f_c t) j v)) H := kt_f_c (t := t) j v rfl hW
  refine lv_aload_n hx hb dX1_write_53 rfl (lv_at hl 0 rfl) ?_
  refine k_get (own := RX1) (C := RX1) (T := TX1) (N := 4) hx hb hts hinX1 hown hK hW (kc_1 g ad (set_f_c t (va_up (f_c t) j v))) rfl 1 (by decide) (hts (.fieldLink RX1 15 "DrillVault$Files" "changedFiles" "[I") (by decide +kernel)) rfl (v := .ref (ad 3 0)) rfl dX1_write_54 ?_
  refine lv_aload_n hx hb dX1_write_57 rfl (lv_at hl 0 rfl) ?_
  refine k_get (own := RX1) (C := RX1) (T := TX1) (N := 4) hx hb hts hinX1 hown hK hW (kc_1 g ad (set_f_c t (va_up (f_c t) j v))) rfl 3 (by decide) (hts (.fieldLink RX1 21 "DrillVault$Files" "changes" "I") (by decide +kernel)) rfl (v := .int (nI (f_n t))) rfl dX1_write_58 ?_
  refine lv_iload_n hx hb dX1_write_61 rfl (lv_at hl 1 rfl) ?_
  refine k_iast hx hb hK hW hS (kc_3 g ad (set_f_c t (va_up (f_c t) j v))) (f_n t) rfl (by omega) (by decide) dX1_write_62 (fun H locs hW hS => ?_)
  have hW : k_H g ad (set_f_lf (set_f_c t (va_up (f_c t) j v)) (va_up (f_lf t) (f_n t) j)) H := kt_f_lf (t := set_f_c t (va_up (f_c t) j v)) (f_n t) j rfl hW
  refine lv_aload_n hx hb dX1_write_63 rfl (lv_at hl 0 rfl) ?_
  refine k_get (own := RX1) (C := RX1) (T := TX1) (N := 4) hx hb hts hinX1 hown hK hW (kc_1 g ad (set_f_lf (set_f_c t (va_up (f_c t) j v)) (va_up (f_lf t) (f_n t) j))) rfl 2 (by decide) (hts (.fieldLink RX1 18 "DrillVault$Files" "changedTo" "[I") (by decide +kernel)) rfl (v := .ref (ad 4 0)) rfl dX1_write_64 ?_
  refine lv_aload_n hx hb dX1_write_67 rfl (lv_at hl 0 rfl) ?_
  refine k_get (own := RX1) (C := RX1) (T := TX1) (N := 4) hx hb hts hinX1 hown hK hW (kc_1 g ad (set_f_lf (set_f_c t (va_up (f_c t) j v)) (va_up (f_lf t) (f_n t) j))) rfl 3 (by decide) (hts (.fieldLink RX1 21 "DrillVault$Files" "changes" "I") (by decide +kernel)) rfl (v := .int (nI (f_n t))) rfl dX1_write_68 ?_
  refine lv_iload_n hx hb dX1_write_71 rfl (lv_at hl 2 rfl) ?_
  refine k_iast hx hb hK hW hS (kc_4 g ad (set_f_lf (set_f_c t (va_up (f_c t) j v)) (va_up (f_lf t) (f_n t) j))) (f_n t) rfl (by omega) (by decide) dX1_write_72 (fun H locs hW hS => ?_)
  have hW : k_H g ad (set_f_lt (set_f_lf (set_f_c t (va_up (f_c t) j v)) (va_up (f_lf t) (f_n t) j)) (va_up (f_lt t) (f_n t) v)) H := kt_f_lt (t := set_f_lf (set_f_c t (va_up (f_c t) j v)) (va_up (f_lf t) (f_n t) j)) (f_n t) v rfl hW
  refine lv_aload_n hx hb dX1_write_73 rfl (lv_at hl 0 rfl) ?_
  refine lv_dup hx hb dX1_write_74 rfl ?_
  refine k_get (own := RX1) (C := RX1) (T := TX1) (N := 4) hx hb hts hinX1 hown hK hW (kc_1 g ad (set_f_lt (set_f_lf (set_f_c t (va_up (f_c t) j v)) (va_up (f_lf t) (f_n t) j)) (va_up (f_lt t) (f_n t) v))) rfl 3 (by decide) (hts (.fieldLink RX1 21 "DrillVault$Files" "changes" "I") (by decide +kernel)) rfl (v := .int (nI (f_n t))) rfl dX1_write_75 ?_
  refine lv_iconst (v := nI 1) hx hb dX1_write_78 (by decide) ?_
  refine k_iadd hx hb dX1_write_79 ?_
  refine k_put (own := RX1) (C := RX1) (T := TX1) (N := 4) hx hb hts hinX1 tyX1 tyX1_ok nmX1 hown hK hW hS (kc_1 g ad (set_f_lt (set_f_lf (set_f_c t (va_up (f_c t) j v)) (va_up (f_lf t) (f_n t) j)) (va_up (f_lt t) (f_n t) v))) rfl 3 (by decide) (hts (.fieldLink RX1 21 "DrillVault$Files" "changes" "I") (by decide +kernel)) rfl rfl (ty := tyX1 3) (v := .int (nI ((f_n t) + 1))) (tyX1_ok 3 (by decide)) rfl rfl (Nat.le_of_ble_eq_true rfl) dX1_write_80 (fun H locs hW hS => ?_)
  have hW : k_H g ad (set_f_n (set_f_lt (set_f_lf (set_f_c t (va_up (f_c t) j v)) (va_up (f_lf t) (f_n t) j)) (va_up (f_lt t) (f_n t) v)) ((f_n t) + 1)) H := kt_f_n (t := set_f_lt (set_f_lf (set_f_c t (va_up (f_c t) j v)) (va_up (f_lf t) (f_n t) j)) (va_up (f_lt t) (f_n t) v)) ((f_n t) + 1) rfl hW
  exact k_rv hQ hx hb hr hlk hS hW rfl (Nat.le_of_ble_eq_true rfl) (Nat.le_of_ble_eq_true rfl) dX1_write_83
abbrev rm_X0_keep : Room := { frames := 0, cells := 0, slots := 0, locals := 0 }
set_option maxRecDepth 100000 in
set_option maxHeartbeats 4000000 in
theorem c_X0_keep (l : Launch) (hlt : l.stackTraces = false) (g : k_g) (ad : k_AD) (t : k_T) (k : Nat) (j : Nat) (v : Int32) (hk : k < o_n t) (hj : j < 10) (hv : v ≠ -1) (hc : o_kc t k = k_cnt (o_k t k)) : Met l yX0_keep wsX0_keep rm_X0_keep (va_Pc [.ref (ad 25 k), .int (nI j), .int v] (k_I g (k_ct g ad t) ad)) (va_Qv (fun u => u = set_o_k (set_o_kc t (va_up (o_kc t) k (k_cnt (va_up (o_k t k) j v)))) (va_up (o_k t) k (va_up (o_k t k) j v))) (fun u U => k_H g ad u U.heap) (k_A g)) 0 0 (k_A g) := by
  refine k_met (cc := cX0_keep) (maxL := 3) (ret := none) (by decide) rfl (Nat.le_of_ble_eq_true rfl) (fun p e s m args below meth c Q ls hQ hx hb hr hml hts hown hlk hin hK hZ hN hW hS hl => ?_)
  have hown : s.vm.findClass RX0 = some m.cls := hown
  have hW : k_H g ad t s.heap := hW
  have hl : lv_has ls 3 [(0, .ref (ad 25 k)), (1, .int (nI j)), (2, .int v)] := hl
  have hinX0 : ∀ w ∈ wsX00, w ∈ wsX0_keep := by decide +kernel
  refine lv_iload_n hx hb dX0_keep_0 rfl (lv_at hl 1 rfl) ?_
  refine k_if_lt (tgt := 13) hx hb (by omega) dX0_keep_1 (by decide) ?_
  refine lv_iload_n hx hb dX0_keep_4 rfl (lv_at hl 1 rfl) ?_
  refine lv_aload_n hx hb dX0_keep_5 rfl (lv_at hl 0 rfl) ?_
  refine k_get (own := RX0) (C := RX0) (T := TX0) (N := 11) hx hb hts hinX0 hown hK hW (kc_25 g ad t hk) rfl 4 (by decide) (hts (.fieldLink RX0 9 "DrillVault$Copy" "kept" "[I") (by decide +kernel)) rfl (v := .ref (ad 26 k)) rfl dX0_keep_6 ?_
  refine k_alen hx hb hK hW 0 rfl (kc_26 g ad t hk) (v := nI 10) rfl dX0_keep_9 ?_
  refine k_icmp_lt (tgt := 14) hx hb (a := j) (b := 10) (by omega) (by decide) dX0_keep_10 (by decide) (fun h_10 => ?_) (fun h_10 => absurd h_10 (by omega))
  refine lv_aload_n hx hb dX0_keep_14 rfl (lv_at hl 0 rfl) ?_
  refine k_get (own := RX0) (C := RX0) (T := TX0) (N := 11) hx hb hts hinX0 hown hK hW (kc_25 g ad t hk) rfl 4 (by decide) (hts (.fieldLink RX0 9 "DrillVault$Copy" "kept" "[I") (by decide +kernel)) rfl (v := .ref (ad 26 k)) rfl dX0_keep_15 ?_
  refine lv_iload_n hx hb dX0_keep_18 rfl (lv_at hl 1 rfl) ?_
  refine k_iald hx hb hK hW (kc_26 g ad t hk) j rfl (by omega) (by decide) dX0_keep_19 ?_
  refine lv_iconst (v := (-1)) hx hb dX0_keep_20 (by decide) ?_
  refine lv_icmp_ne (tgt := 34) hx hb dX0_keep_21 (by decide) (fun h_21 => ?_) (fun h_21 => ?_)
  · refine lv_aload_n hx hb dX0_keep_34 rfl (lv_at hl 0 rfl) ?_
    refine k_get (own := RX0) (C := RX0) (T := TX0) (N := 11) hx hb hts hinX0 hown hK hW (kc_25 g ad t hk) rfl 4 (by decide) (hts (.fieldLink RX0 9 "DrillVault$Copy" "kept" "[I") (by decide +kernel)) rfl (v := .ref (ad 26 k)) rfl dX0_keep_35 ?_
    refine lv_iload_n hx hb dX0_keep_38 rfl (lv_at hl 1 rfl) ?_
    refine lv_iload_n hx hb dX0_keep_39 rfl (lv_at hl 2 rfl) ?_
    refine k_iast hx hb hK hW hS (kc_26 g ad t hk) j rfl (by omega) (by decide) dX0_keep_40 (fun H locs hW hS => ?_)
    have hW : k_H g ad (set_o_k t (va_up (o_k t) k (va_up (o_k t k) j v))) H := kt_o_k (t := t) k hk j v hW
    exact k_rv hQ hx hb hr hlk hS hW (by rw [k_cnt_old hv h_21, ← hc, k_up_id]) (Nat.le_of_ble_eq_true rfl) (Nat.le_of_ble_eq_true rfl) dX0_keep_41
  · refine lv_aload_n hx hb dX0_keep_24 rfl (lv_at hl 0 rfl) ?_
    refine lv_dup hx hb dX0_keep_25 rfl ?_
    refine k_get (own := RX0) (C := RX0) (T := TX0) (N := 11) hx hb hts hinX0 hown hK hW (kc_25 g ad t hk) rfl 5 (by decide) (hts (.fieldLink RX0 29 "DrillVault$Copy" "keptContents" "I") (by decide +kernel)) rfl (v := .int (nI (o_kc t k))) rfl dX0_keep_26 ?_
    refine lv_iconst (v := nI 1) hx hb dX0_keep_29 (by decide) ?_
    refine k_iadd hx hb dX0_keep_30 ?_
    refine k_put (own := RX0) (C := RX0) (T := TX0) (N := 11) hx hb hts hinX0 tyX0 tyX0_ok nmX0 hown hK hW hS (kc_25 g ad t hk) rfl 5 (by decide) (hts (.fieldLink RX0 29 "DrillVault$Copy" "keptContents" "I") (by decide +kernel)) rfl rfl (ty := tyX0 5) (v := .int (nI ((o_kc t k) + 1))) (tyX0_ok 5 (by decide)) rfl rfl (Nat.le_of_ble_eq_true rfl) dX0_keep_31 (fun H locs hW hS => ?_)
    have hW : k_H g ad (set_o_kc t (va_up (o_kc t) k ((o_kc t k) + 1))) H := kt_o_kc (t := t) k hk ((o_kc t k) + 1) rfl hW
    refine lv_aload_n hx hb dX0_keep_34 rfl (lv_at hl 0 rfl) ?_
    refine k_get (own := RX0) (C := RX0) (T := TX0) (N := 11) hx hb hts hinX0 hown hK hW (kc_25 g ad (set_o_kc t (va_up (o_kc t) k ((o_kc t k) + 1))) hk) rfl 4 (by decide) (hts (.fieldLink RX0 9 "DrillVault$Copy" "kept" "[I") (by decide +kernel)) rfl (v := .ref (ad 26 k)) rfl dX0_keep_35 ?_
    refine lv_iload_n hx hb dX0_keep_38 rfl (lv_at hl 1 rfl) ?_
    refine lv_iload_n hx hb dX0_keep_39 rfl (lv_at hl 2 rfl) ?_
    refine k_iast hx hb hK hW hS (kc_26 g ad (set_o_kc t (va_up (o_kc t) k ((o_kc t k) + 1))) hk) j rfl (by omega) (by decide) dX0_keep_40 (fun H locs hW hS => ?_)
    have hW : k_H g ad (set_o_k (set_o_kc t (va_up (o_kc t) k ((o_kc t k) + 1))) (va_up (o_k t) k (va_up (o_k t k) j v))) H := kt_o_k (t := set_o_kc t (va_up (o_kc t) k ((o_kc t k) + 1))) k hk j v hW
    exact k_rv hQ hx hb hr hlk hS hW (by rw [k_cnt_new hj hv h_21, ← hc]) (Nat.le_of_ble_eq_true rfl) (Nat.le_of_ble_eq_true rfl) dX0_keep_41
abbrev rm_X0_spaceTaken : Room := { frames := 0, cells := 0, slots := 0, locals := 0 }
set_option maxRecDepth 100000 in
set_option maxHeartbeats 4000000 in
theorem c_X0_spaceTaken (l : Launch) (hlt : l.stackTraces = false) (g : k_g) (ad : k_AD) (t : k_T) (k : Nat) (hk : k < o_n t) : Met l yX0_spaceTaken wsX0_spaceTaken rm_X0_spaceTaken (va_Pc [.ref (ad 25 k)] (k_I g (k_ct g ad t) ad)) (va_Qi (fun r u => r = nI (o_kc t k + 1) ∧ u = t) (fun u U => k_H g ad u U.heap) (k_A g)) 0 0 (k_A g) := by
  refine k_met (cc := cX0_spaceTaken) (maxL := 1) (ret := (some .int)) (by decide) rfl (Nat.le_of_ble_eq_true rfl) (fun p e s m args below meth c Q ls hQ hx hb hr hml hts hown hlk hin hK hZ hN hW hS hl => ?_)
  have hown : s.vm.findClass RX0 = some m.cls := hown
  have hW : k_H g ad t s.heap := hW
  have hl : lv_has ls 1 [(0, .ref (ad 25 k))] := hl
  have hinX0 : ∀ w ∈ wsX00, w ∈ wsX0_spaceTaken := by decide +kernel
  refine lv_aload_n hx hb dX0_spaceTaken_0 rfl (lv_at hl 0 rfl) ?_
  refine k_get (own := RX0) (C := RX0) (T := TX0) (N := 11) hx hb hts hinX0 hown hK hW (kc_25 g ad t hk) rfl 5 (by decide) (hts (.fieldLink RX0 29 "DrillVault$Copy" "keptContents" "I") (by decide +kernel)) rfl (v := .int (nI (o_kc t k))) rfl dX0_spaceTaken_1 ?_
  refine lv_iconst (v := nI 1) hx hb dX0_spaceTaken_4 (by decide) ?_
  refine k_iadd hx hb dX0_spaceTaken_5 ?_
  exact k_ri hQ hx hb hr hlk hS hW ⟨rfl, rfl⟩ (Nat.le_of_ble_eq_true rfl) (Nat.le_of_ble_eq_true rfl) dX0_spaceTaken_6
abbrev rm_X1_contentAfter : Room := { frames := 0, cells := 0, slots := 0, locals := 0 }
set_option maxRecDepth 100000 in
set_option maxHeartbeats 4000000 in
theorem c_X1_contentAfter (l : Launch) (hlt : l.stackTraces = false) (g : k_g) (ad : k_AD) (t : k_T) (w : Nat) (j : Nat) (hm : w ≤ 300) (hj : j < 10) (hlf : ∀ i, i < w → f_lf t i < 10) : Met l yX1_contentAfter wsX1_contentAfter rm_X1_contentAfter (va_Pc [.ref (ad 1 0), .int (nI w), .int (nI j)] (k_I g (k_ct g ad t) ad)) (va_Qi (fun r u => r = k_log (f_lf t) (f_lt t) w j ∧ u = t) (fun u U => k_H g ad u U.heap) (k_A g)) 0 0 (k_A g) := by
  refine k_met (cc := cX1_contentAfter) (maxL := 5) (ret := (some .int)) (by decide) rfl (Nat.le_of_ble_eq_true rfl) (fun p e s m args below meth c Q ls hQ hx hb hr hml hts hown hlk hin hK hZ hN hW hS hl => ?_)
  have hown : s.vm.findClass RX1 = some m.cls := hown
  have hW : k_H g ad t s.heap := hW
  have hl : lv_has ls 5 [(0, .ref (ad 1 0)), (1, .int (nI w)), (2, .int (nI j))] := hl
  have hinX1 : ∀ w ∈ wsX10, w ∈ wsX1_contentAfter := by decide +kernel
  refine lv_iconst (v := nI 0) hx hb dX1_contentAfter_0 (by decide) ?_
  refine lv_istore_n (lv' := [(3, .int (nI 0)), (0, .ref (ad 1 0)), (1, .int (nI w)), (2, .int (nI j))]) hx hb dX1_contentAfter_1 rfl hl (by decide) rfl (fun ls hl => ?_)
  refine lv_iconst (v := nI 0) hx hb dX1_contentAfter_2 (by decide) ?_
  refine lv_istore (lv' := [(4, .int (nI 0)), (3, .int (nI 0)), (0, .ref (ad 1 0)), (1, .int (nI w)), (2, .int (nI j))]) hx hb dX1_contentAfter_3 hl (by decide) rfl (fun ls hl => ?_)
  have hloop_5 : ∀ (n : Nat) (i : Nat) (z : Int32), (w < i + n) → (i ≤ w) → (z = k_log (f_lf t) (f_lt t) i j) → ∀ (H : Heap) (locs : List Loc), k_H g ad t H → va_S (k_A g) s.heap H locs → ∀ (ls : Array Slot), lv_has ls 5 [(0, .ref (ad 1 0)), (1, .int (nI w)), (2, .int (nI j)), (3, .int z), (4, .int (nI i))] → W p l e rm_X1_contentAfter s m args below meth c H locs 0 0 Q (F0 m 5 ls []) := by
    intro n
    induction n with
    | zero =>
      intro i z hfu hi hz
      exact absurd hfu (by omega)
    | succ n ih =>
      intro i z hfu hi hz H locs hW hS ls hl
      refine lv_iload hx hb dX1_contentAfter_5 (lv_at hl 4 rfl) ?_
      refine lv_iload_n hx hb dX1_contentAfter_7 rfl (lv_at hl 1 rfl) ?_
      refine k_icmp_ge (tgt := 56) hx hb (a := i) (b := w) (by omega) (by omega) dX1_contentAfter_8 (by decide) (fun h_8 => ?_) (fun h_8 => ?_)
      · refine lv_iload_n hx hb dX1_contentAfter_56 rfl (lv_at hl 3 rfl) ?_
        exact k_ri hQ hx hb hr hlk hS hW ⟨by rw [hz, show i = w by omega], rfl⟩ (Nat.le_of_ble_eq_true rfl) (Nat.le_of_ble_eq_true rfl) dX1_contentAfter_57
      · refine lv_iload hx hb dX1_contentAfter_11 (lv_at hl 4 rfl) ?_
        refine lv_aload_n hx hb dX1_contentAfter_13 rfl (lv_at hl 0 rfl) ?_
        refine k_get (own := RX1) (C := RX1) (T := TX1) (N := 4) hx hb hts hinX1 hown hK hW (kc_1 g ad t) rfl 1 (by decide) (hts (.fieldLink RX1 15 "DrillVault$Files" "changedFiles" "[I") (by decide +kernel)) rfl (v := .ref (ad 3 0)) rfl dX1_contentAfter_14 ?_
        refine k_alen hx hb hK hW 0 rfl (kc_3 g ad t) (v := nI 300) rfl dX1_contentAfter_17 ?_
        refine k_icmp_ge (tgt := 56) hx hb (a := i) (b := 300) (by omega) (by decide) dX1_contentAfter_18 (by decide) (fun h_18 => absurd h_18 (by omega)) (fun h_18 => ?_)
        refine lv_iload hx hb dX1_contentAfter_21 (lv_at hl 4 rfl) ?_
        refine lv_aload_n hx hb dX1_contentAfter_23 rfl (lv_at hl 0 rfl) ?_
        refine k_get (own := RX1) (C := RX1) (T := TX1) (N := 4) hx hb hts hinX1 hown hK hW (kc_1 g ad t) rfl 2 (by decide) (hts (.fieldLink RX1 18 "DrillVault$Files" "changedTo" "[I") (by decide +kernel)) rfl (v := .ref (ad 4 0)) rfl dX1_contentAfter_24 ?_
        refine k_alen hx hb hK hW 0 rfl (kc_4 g ad t) (v := nI 300) rfl dX1_contentAfter_27 ?_
        refine k_icmp_ge (tgt := 56) hx hb (a := i) (b := 300) (by omega) (by decide) dX1_contentAfter_28 (by decide) (fun h_28 => absurd h_28 (by omega)) (fun h_28 => ?_)
        refine lv_aload_n hx hb dX1_contentAfter_31 rfl (lv_at hl 0 rfl) ?_
        refine k_get (own := RX1) (C := RX1) (T := TX1) (N := 4) hx hb hts hinX1 hown hK hW (kc_1 g ad t) rfl 1 (by decide) (hts (.fieldLink RX1 15 "DrillVault$Files" "changedFiles" "[I") (by decide +kernel)) rfl (v := .ref (ad 3 0)) rfl dX1_contentAfter_32 ?_
        refine lv_iload hx hb dX1_contentAfter_35 (lv_at hl 4 rfl) ?_
        refine k_iald hx hb hK hW (kc_3 g ad t) i rfl (by omega) (by decide) dX1_contentAfter_37 ?_
        refine lv_iload_n hx hb dX1_contentAfter_38 rfl (lv_at hl 2 rfl) ?_
        refine k_icmp_ne (tgt := 50) hx hb (a := f_lf t i) (b := j) (by have := hlf i (by omega); omega) (by omega) dX1_contentAfter_39 (by decide) (fun h_39 => ?_) (fun h_39 => ?_)
        · refine lv_iinc (v := nI (i + 1)) (lv' := [(4, .int (nI (i + 1))), (0, .ref (ad 1 0)), (1, .int (nI w)), (2, .int (nI j)), (3, .int z)]) hx hb dX1_contentAfter_50 hl (k := 4) rfl (nI_add _ _) (by decide) rfl (fun ls hl => ?_)
          refine lv_goto (tgt := 5) hx hb dX1_contentAfter_53 (by decide) ?_
          exact ih (i + 1) z (by omega) (by omega) (by rw [hz, k_log, if_neg h_39]) _ _ hW hS _ (lv_sub hl [1, 2, 3, 4, 0] rfl)
        · refine lv_aload_n hx hb dX1_contentAfter_42 rfl (lv_at hl 0 rfl) ?_
          refine k_get (own := RX1) (C := RX1) (T := TX1) (N := 4) hx hb hts hinX1 hown hK hW (kc_1 g ad t) rfl 2 (by decide) (hts (.fieldLink RX1 18 "DrillVault$Files" "changedTo" "[I") (by decide +kernel)) rfl (v := .ref (ad 4 0)) rfl dX1_contentAfter_43 ?_
          refine lv_iload hx hb dX1_contentAfter_46 (lv_at hl 4 rfl) ?_
          refine k_iald hx hb hK hW (kc_4 g ad t) i rfl (by omega) (by decide) dX1_contentAfter_48 ?_
          refine lv_istore_n (lv' := [(3, .int (f_lt t i)), (0, .ref (ad 1 0)), (1, .int (nI w)), (2, .int (nI j)), (4, .int (nI i))]) hx hb dX1_contentAfter_49 rfl hl (by decide) rfl (fun ls hl => ?_)
          refine lv_iinc (v := nI (i + 1)) (lv' := [(4, .int (nI (i + 1))), (3, .int (f_lt t i)), (0, .ref (ad 1 0)), (1, .int (nI w)), (2, .int (nI j))]) hx hb dX1_contentAfter_50 hl (k := 4) rfl (nI_add _ _) (by decide) rfl (fun ls hl => ?_)
          refine lv_goto (tgt := 5) hx hb dX1_contentAfter_53 (by decide) ?_
          exact ih (i + 1) (f_lt t i) (by omega) (by omega) (by rw [k_log, if_pos h_39]) _ _ hW hS _ (lv_sub hl [2, 3, 4, 1, 0] rfl)
  exact hloop_5 (w + 1) 0 (nI 0) (by omega) (by omega) rfl _ _ hW hS _ (lv_sub hl [2, 3, 4, 1, 0] rfl)
abbrev rm_X1_keepAll : Room := { frames := 1, cells := 0, slots := 0, locals := 22 }
set_option maxRecDepth 100000 in
set_option maxHeartbeats 4000000 in
theorem c_X1_keepAll (l : Launch) (hlt : l.stackTraces = false) (g : k_g) (ad : k_AD) (t : k_T) (k : Nat) (hk : k < o_n t) (hfc : ∀ j, j < 10 → f_c t j ≠ -1) (hc : o_kc t k = k_cnt (o_k t k)) : Met l yX1_keepAll wsX1_keepAll rm_X1_keepAll (va_Pc [.ref (ad 1 0), .ref (ad 25 k)] (k_I g (k_ct g ad t) ad)) (va_Qv (fun u => u = set_o_k (set_o_kc t (va_up (o_kc t) k (k_cnt (fun j => if j < 10 then (f_c t) j else o_k t k j)))) (va_up (o_k t) k (fun j => if j < 10 then (f_c t) j else o_k t k j))) (fun u U => k_H g ad u U.heap) (k_A g)) 0 0 (k_A g) := by
  refine k_met (cc := cX1_keepAll) (maxL := 3) (ret := none) (by decide) rfl (Nat.le_of_ble_eq_true rfl) (fun p e s m args below meth c Q ls hQ hx hb hr hml hts hown hlk hin hK hZ hN hW hS hl => ?_)
  have hown : s.vm.findClass RX1 = some m.cls := hown
  have hW : k_H g ad t s.heap := hW
  have hl : lv_has ls 3 [(0, .ref (ad 1 0)), (1, .ref (ad 25 k))] := hl
  have hinX1 : ∀ w ∈ wsX10, w ∈ wsX1_keepAll := by decide +kernel
  refine lv_iconst (v := nI 0) hx hb dX1_keepAll_0 (by decide) ?_
  refine lv_istore_n (lv' := [(2, .int (nI 0)), (0, .ref (ad 1 0)), (1, .ref (ad 25 k))]) hx hb dX1_keepAll_1 rfl hl (by decide) rfl (fun ls hl => ?_)
  have hloop_2 : ∀ (n : Nat) (i : Nat) (K : Nat → Int32), (10 < i + n) → (i ≤ 10) → (∀ f, K f = if f < i then f_c t f else o_k t k f) → ∀ (H : Heap) (locs : List Loc), k_H g ad (set_o_k (set_o_kc t (va_up (o_kc t) k (k_cnt K))) (va_up (o_k t) k K)) H → va_S (k_A g) s.heap H locs → ∀ (ls : Array Slot), lv_has ls 3 [(0, .ref (ad 1 0)), (1, .ref (ad 25 k)), (2, .int (nI i))] → W p l e rm_X1_keepAll s m args below meth c H locs 0 0 Q (F0 m 2 ls []) := by
    intro n
    induction n with
    | zero =>
      intro i K hfu hi hKf
      exact absurd hfu (by omega)
    | succ n ih =>
      intro i K hfu hi hKf H locs hW hS ls hl
      refine lv_iload_n hx hb dX1_keepAll_2 rfl (lv_at hl 2 rfl) ?_
      refine lv_aload_n hx hb dX1_keepAll_3 rfl (lv_at hl 0 rfl) ?_
      refine k_get (own := RX1) (C := RX1) (T := TX1) (N := 4) hx hb hts hinX1 hown hK hW (kc_1 g ad (set_o_k (set_o_kc t (va_up (o_kc t) k (k_cnt K))) (va_up (o_k t) k K))) rfl 0 (by decide) (hts (.fieldLink RX1 9 "DrillVault$Files" "contents" "[I") (by decide +kernel)) rfl (v := .ref (ad 2 0)) rfl dX1_keepAll_4 ?_
      refine k_alen hx hb hK hW 0 rfl (kc_2 g ad (set_o_k (set_o_kc t (va_up (o_kc t) k (k_cnt K))) (va_up (o_k t) k K))) (v := nI 10) rfl dX1_keepAll_7 ?_
      refine k_icmp_ge (tgt := 28) hx hb (a := i) (b := 10) (by omega) (by decide) dX1_keepAll_8 (by decide) (fun h_8 => ?_) (fun h_8 => ?_)
      · exact k_rv hQ hx hb hr hlk hS hW (by rw [show K = (fun j => if j < 10 then f_c t j else o_k t k j) from funext fun f => by rw [hKf, show i = 10 by omega]]) (Nat.le_of_ble_eq_true rfl) (Nat.le_of_ble_eq_true rfl) dX1_keepAll_28
      · refine lv_aload_n hx hb dX1_keepAll_11 rfl (lv_at hl 1 rfl) ?_
        refine lv_iload_n hx hb dX1_keepAll_12 rfl (lv_at hl 2 rfl) ?_
        refine lv_aload_n hx hb dX1_keepAll_13 rfl (lv_at hl 0 rfl) ?_
        refine k_get (own := RX1) (C := RX1) (T := TX1) (N := 4) hx hb hts hinX1 hown hK hW (kc_1 g ad (set_o_k (set_o_kc t (va_up (o_kc t) k (k_cnt K))) (va_up (o_k t) k K))) rfl 0 (by decide) (hts (.fieldLink RX1 9 "DrillVault$Files" "contents" "[I") (by decide +kernel)) rfl (v := .ref (ad 2 0)) rfl dX1_keepAll_14 ?_
        refine lv_iload_n hx hb dX1_keepAll_17 rfl (lv_at hl 2 rfl) ?_
        refine k_iald hx hb hK hW (kc_2 g ad (set_o_k (set_o_kc t (va_up (o_kc t) k (k_cnt K))) (va_up (o_k t) k K))) i rfl (by omega) (by decide) dX1_keepAll_18 ?_
        refine k_cv (va_runV (As := [.int (nI i), .int (f_c t i)]) (rest := []) ⟨hx, hb, hml, hown, hts⟩ (c_X0_keep l hlt g ad (set_o_k (set_o_kc t (va_up (o_kc t) k (k_cnt K))) (va_up (o_k t) k K)) k i (f_c t i) hk (by omega) (hfc i (by omega)) (by show va_up (o_kc t) k (k_cnt K) k = k_cnt (va_up (o_k t) k K k); rw [va_up_self, va_up_self])) (cwV 2 hts gX1_keepAll_X0_keep rfl rfl rfl (by decide +kernel) ⟨(Nat.le_of_ble_eq_true rfl), (Nat.le_of_ble_eq_true rfl)⟩) ⟨k_blind, k_recv hK hW (kc_25 g ad (set_o_k (set_o_kc t (va_up (o_kc t) k (k_cnt K))) (va_up (o_k t) k K)) hk) rfl, fun U hU hw => ⟨rfl, k_I.of hK hZ hN hS hW hU hw⟩⟩ rfl rfl hl.1 rfl (lv_room (Nat.le_of_ble_eq_true rfl)) dX1_keepAll_19 ⟨(Nat.le_of_ble_eq_true rfl), (Nat.le_of_ble_eq_true rfl)⟩) hS (fun u H locs hpo hW hS => ?_)
        have hu9 := hpo.symm; subst hu9
        have hW : k_H g ad (set_o_k (set_o_kc t (va_up (va_up (o_kc t) k (k_cnt K)) k (k_cnt (va_up ((va_up (o_k t) k K) k) i (f_c t i))))) (va_up (va_up (o_k t) k K) k (va_up ((va_up (o_k t) k K) k) i (f_c t i)))) H := hW
        simp only [bx_uu, va_up_self] at hW
        have hW : k_H g ad (set_o_k (set_o_kc t (va_up (o_kc t) k (k_cnt (va_up K i (f_c t i))))) (va_up (o_k t) k (va_up K i (f_c t i)))) H := hW
        refine lv_iinc (v := nI (i + 1)) (lv' := [(2, .int (nI (i + 1))), (0, .ref (ad 1 0)), (1, .ref (ad 25 k))]) hx hb dX1_keepAll_22 hl (k := 2) rfl (nI_add _ _) (by decide) rfl (fun ls hl => ?_)
        refine lv_goto (tgt := 2) hx hb dX1_keepAll_25 (by decide) ?_
        exact ih (i + 1) (va_up K i (f_c t i)) (by omega) (by omega) (k_ka_step hKf) _ _ hW hS _ (lv_sub hl [1, 2, 0] rfl)
  have hW : k_H g ad (set_o_k (set_o_kc t (va_up (o_kc t) k (k_cnt (o_k t k)))) (va_up (o_k t) k (o_k t k))) s.heap := by rw [← hc, k_up_id, k_up_id]; exact hW
  exact hloop_2 11 0 (o_k t k) (by omega) (by omega) (fun f => by simp) _ _ hW hS _ (lv_sub hl [1, 2, 0] rfl)
abbrev rm_X1_keepChanged : Room := { frames := 1, cells := 0, slots := 0, locals := 22 }
set_option maxRecDepth 100000 in
set_option maxHeartbeats 4000000 in
theorem c_X1_keepChanged (l : Launch) (hlt : l.stackTraces = false) (g : k_g) (ad : k_AD) (t : k_T) (k : Nat) (a : Nat) (hk : k < o_n t) (hn : f_n t ≤ 300) (ha : a ≤ f_n t) (hfc : ∀ j, j < 10 → f_c t j ≠ -1) (hlf : ∀ i, i < f_n t → f_lf t i < 10) (hc : o_kc t k = k_cnt (o_k t k)) : Met l yX1_keepChanged wsX1_keepChanged rm_X1_keepChanged (va_Pc [.ref (ad 1 0), .ref (ad 25 k), .int (nI a)] (k_I g (k_ct g ad t) ad)) (va_Qv (fun u => u = set_o_k (set_o_kc t (va_up (o_kc t) k (k_cnt (fun j => if k_chd (f_lf t) a (f_n t) j = true then (f_c t) j else o_k t k j)))) (va_up (o_k t) k (fun j => if k_chd (f_lf t) a (f_n t) j = true then (f_c t) j else o_k t k j))) (fun u U => k_H g ad u U.heap) (k_A g)) 0 0 (k_A g) := by
  refine k_met (cc := cX1_keepChanged) (maxL := 4) (ret := none) (by decide) rfl (Nat.le_of_ble_eq_true rfl) (fun p e s m args below meth c Q ls hQ hx hb hr hml hts hown hlk hin hK hZ hN hW hS hl => ?_)
  have hown : s.vm.findClass RX1 = some m.cls := hown
  have hW : k_H g ad t s.heap := hW
  have hl : lv_has ls 4 [(0, .ref (ad 1 0)), (1, .ref (ad 25 k)), (2, .int (nI a))] := hl
  have hinX1 : ∀ w ∈ wsX10, w ∈ wsX1_keepChanged := by decide +kernel
  refine lv_iload_n hx hb dX1_keepChanged_0 rfl (lv_at hl 2 rfl) ?_
  refine lv_iconst (v := nI 0) hx hb dX1_keepChanged_1 (by decide) ?_
  refine va_mmax hx hb (hml.trans hl.1.symm) hown (hts (.methodLink RX1 31 Lib.Math.max.name) (by decide +kernel)) (hts (.static Lib.Math.max.name) (by decide +kernel)) (hts (.initialized "java/lang/Math") (by decide +kernel)) (hts (.code Lib.Math.max.name Lib.Math.max.code 2 (some .int)) (by decide +kernel)) (Nat.le_of_ble_eq_true rfl) (Nat.le_of_ble_eq_true rfl) (Nat.le_of_ble_eq_true rfl) (Nat.le_of_ble_eq_true rfl) dX1_keepChanged_2 ?_
  refine k_toi (y := nI a) (if_neg (nI_nlt (Nat.zero_le _) (by omega))) ?_
  refine lv_istore_n (lv' := [(3, .int (nI a)), (0, .ref (ad 1 0)), (1, .ref (ad 25 k)), (2, .int (nI a))]) hx hb dX1_keepChanged_5 rfl hl (by decide) rfl (fun ls hl => ?_)
  have hloop_6 : ∀ (n : Nat) (i : Nat) (K : Nat → Int32), (f_n t < i + n) → (i ≤ f_n t) → (a ≤ i) → (∀ f, K f = if k_chd (f_lf t) a i f = true then f_c t f else o_k t k f) → ∀ (H : Heap) (locs : List Loc), k_H g ad (set_o_k (set_o_kc t (va_up (o_kc t) k (k_cnt K))) (va_up (o_k t) k K)) H → va_S (k_A g) s.heap H locs → ∀ (ls : Array Slot), lv_has ls 4 [(0, .ref (ad 1 0)), (1, .ref (ad 25 k)), (3, .int (nI i))] → W p l e rm_X1_keepChanged s m args below meth c H locs 0 0 Q (F0 m 6 ls []) := by
    intro n
    induction n with
    | zero =>
      intro i K hfu hi hai hKf
      exact absurd hfu (by omega)
    | succ n ih =>
      intro i K hfu hi hai hKf H locs hW hS ls hl
      refine lv_iload_n hx hb dX1_keepChanged_6 rfl (lv_at hl 2 rfl) ?_
      refine lv_aload_n hx hb dX1_keepChanged_7 rfl (lv_at hl 0 rfl) ?_
      refine k_get (own := RX1) (C := RX1) (T := TX1) (N := 4) hx hb hts hinX1 hown hK hW (kc_1 g ad (set_o_k (set_o_kc t (va_up (o_kc t) k (k_cnt K))) (va_up (o_k t) k K))) rfl 3 (by decide) (hts (.fieldLink RX1 21 "DrillVault$Files" "changes" "I") (by decide +kernel)) rfl (v := .int (nI (f_n t))) rfl dX1_keepChanged_8 ?_
      refine k_icmp_ge (tgt := 49) hx hb (a := i) (b := f_n t) (by omega) (by omega) dX1_keepChanged_11 (by decide) (fun h_11 => ?_) (fun h_11 => ?_)
      · exact k_rv hQ hx hb hr hlk hS hW (by rw [show K = (fun j => if k_chd (f_lf t) a (f_n t) j = true then f_c t j else o_k t k j) from funext fun f => by rw [hKf, show i = f_n t by omega]]) (Nat.le_of_ble_eq_true rfl) (Nat.le_of_ble_eq_true rfl) dX1_keepChanged_49
      · refine lv_iload_n hx hb dX1_keepChanged_14 rfl (lv_at hl 2 rfl) ?_
        refine lv_aload_n hx hb dX1_keepChanged_15 rfl (lv_at hl 0 rfl) ?_
        refine k_get (own := RX1) (C := RX1) (T := TX1) (N := 4) hx hb hts hinX1 hown hK hW (kc_1 g ad (set_o_k (set_o_kc t (va_up (o_kc t) k (k_cnt K))) (va_up (o_k t) k K))) rfl 1 (by decide) (hts (.fieldLink RX1 15 "DrillVault$Files" "changedFiles" "[I") (by decide +kernel)) rfl (v := .ref (ad 3 0)) rfl dX1_keepChanged_16 ?_
        refine k_alen hx hb hK hW 0 rfl (kc_3 g ad (set_o_k (set_o_kc t (va_up (o_kc t) k (k_cnt K))) (va_up (o_k t) k K))) (v := nI 300) rfl dX1_keepChanged_19 ?_
        refine k_icmp_ge (tgt := 49) hx hb (a := i) (b := 300) (by omega) (by decide) dX1_keepChanged_20 (by decide) (fun h_20 => absurd h_20 (by omega)) (fun h_20 => ?_)
        refine lv_aload_n hx hb dX1_keepChanged_23 rfl (lv_at hl 1 rfl) ?_
        refine lv_aload_n hx hb dX1_keepChanged_24 rfl (lv_at hl 0 rfl) ?_
        refine k_get (own := RX1) (C := RX1) (T := TX1) (N := 4) hx hb hts hinX1 hown hK hW (kc_1 g ad (set_o_k (set_o_kc t (va_up (o_kc t) k (k_cnt K))) (va_up (o_k t) k K))) rfl 1 (by decide) (hts (.fieldLink RX1 15 "DrillVault$Files" "changedFiles" "[I") (by decide +kernel)) rfl (v := .ref (ad 3 0)) rfl dX1_keepChanged_25 ?_
        refine lv_iload_n hx hb dX1_keepChanged_28 rfl (lv_at hl 2 rfl) ?_
        refine k_iald hx hb hK hW (kc_3 g ad (set_o_k (set_o_kc t (va_up (o_kc t) k (k_cnt K))) (va_up (o_k t) k K))) i rfl (by omega) (by decide) dX1_keepChanged_29 ?_
        refine lv_aload_n hx hb dX1_keepChanged_30 rfl (lv_at hl 0 rfl) ?_
        refine lv_aload_n hx hb dX1_keepChanged_31 rfl (lv_at hl 0 rfl) ?_
        refine k_get (own := RX1) (C := RX1) (T := TX1) (N := 4) hx hb hts hinX1 hown hK hW (kc_1 g ad (set_o_k (set_o_kc t (va_up (o_kc t) k (k_cnt K))) (va_up (o_k t) k K))) rfl 1 (by decide) (hts (.fieldLink RX1 15 "DrillVault$Files" "changedFiles" "[I") (by decide +kernel)) rfl (v := .ref (ad 3 0)) rfl dX1_keepChanged_32 ?_
        refine lv_iload_n hx hb dX1_keepChanged_35 rfl (lv_at hl 2 rfl) ?_
        refine k_iald hx hb hK hW (kc_3 g ad (set_o_k (set_o_kc t (va_up (o_kc t) k (k_cnt K))) (va_up (o_k t) k K))) i rfl (by omega) (by decide) dX1_keepChanged_36 ?_
        refine k_ci (va_runV (As := [.int (nI (f_lf t i))]) (rest := [.int (nI (f_lf t i)), .ref (ad 25 k)]) ⟨hx, hb, hml, hown, hts⟩ (c_X1_contentNow l hlt g ad (set_o_k (set_o_kc t (va_up (o_kc t) k (k_cnt K))) (va_up (o_k t) k K)) (f_lf t i) (hlf i (by omega))) (cwV 1 hts gX1_keepChanged_X1_contentNow rfl rfl rfl (by decide +kernel) ⟨(Nat.le_of_ble_eq_true rfl), (Nat.le_of_ble_eq_true rfl)⟩) ⟨k_blind, k_recv hK hW (kc_1 g ad (set_o_k (set_o_kc t (va_up (o_kc t) k (k_cnt K))) (va_up (o_k t) k K))) rfl, fun U hU hw => ⟨rfl, k_I.of hK hZ hN hS hW hU hw⟩⟩ rfl rfl hl.1 rfl (lv_room (Nat.le_of_ble_eq_true rfl)) dX1_keepChanged_37 ⟨(Nat.le_of_ble_eq_true rfl), (Nat.le_of_ble_eq_true rfl)⟩) hS (fun r u H locs hpo hW hS => ?_)
        obtain ⟨hr9, hu9⟩ := hpo; replace hu9 := hu9.symm; subst hu9; replace hr9 := hr9.symm; subst hr9
        refine k_cv (va_runV (As := [.int (nI (f_lf t i)), .int (f_c t (f_lf t i))]) (rest := []) ⟨hx, hb, hml, hown, hts⟩ (c_X0_keep l hlt g ad (set_o_k (set_o_kc t (va_up (o_kc t) k (k_cnt K))) (va_up (o_k t) k K)) k (f_lf t i) (f_c t (f_lf t i)) hk (hlf i (by omega)) (hfc _ (hlf i (by omega))) (by show va_up (o_kc t) k (k_cnt K) k = k_cnt (va_up (o_k t) k K k); rw [va_up_self, va_up_self])) (cwV 2 hts gX1_keepChanged_X0_keep rfl rfl rfl (by decide +kernel) ⟨(Nat.le_of_ble_eq_true rfl), (Nat.le_of_ble_eq_true rfl)⟩) ⟨k_blind, k_recv hK hW (kc_25 g ad (set_o_k (set_o_kc t (va_up (o_kc t) k (k_cnt K))) (va_up (o_k t) k K)) hk) rfl, fun U hU hw => ⟨rfl, k_I.of hK hZ hN hS hW hU hw⟩⟩ rfl rfl hl.1 rfl (lv_room (Nat.le_of_ble_eq_true rfl)) dX1_keepChanged_40 ⟨(Nat.le_of_ble_eq_true rfl), (Nat.le_of_ble_eq_true rfl)⟩) hS (fun u H locs hpo hW hS => ?_)
        have hu9 := hpo.symm; subst hu9
        have hW : k_H g ad (set_o_k (set_o_kc t (va_up (va_up (o_kc t) k (k_cnt K)) k (k_cnt (va_up ((va_up (o_k t) k K) k) (f_lf t i) (f_c t (f_lf t i)))))) (va_up (va_up (o_k t) k K) k (va_up ((va_up (o_k t) k K) k) (f_lf t i) (f_c t (f_lf t i))))) H := hW
        simp only [bx_uu, va_up_self] at hW
        have hW : k_H g ad (set_o_k (set_o_kc t (va_up (o_kc t) k (k_cnt (va_up K (f_lf t i) (f_c t (f_lf t i)))))) (va_up (o_k t) k (va_up K (f_lf t i) (f_c t (f_lf t i))))) H := hW
        refine lv_iinc (v := nI (i + 1)) (lv' := [(3, .int (nI (i + 1))), (0, .ref (ad 1 0)), (1, .ref (ad 25 k))]) hx hb dX1_keepChanged_43 hl (k := 2) rfl (nI_add _ _) (by decide) rfl (fun ls hl => ?_)
        refine lv_goto (tgt := 6) hx hb dX1_keepChanged_46 (by decide) ?_
        exact ih (i + 1) (va_up K (f_lf t i) (f_c t (f_lf t i))) (by omega) (by omega) (by omega) (k_kc_step hai hKf) _ _ hW hS _ (lv_sub hl [1, 2, 0] rfl)
  have hW : k_H g ad (set_o_k (set_o_kc t (va_up (o_kc t) k (k_cnt (o_k t k)))) (va_up (o_k t) k (o_k t k))) s.heap := by rw [← hc, k_up_id, k_up_id]; exact hW
  exact hloop_6 (f_n t + 1) a (o_k t k) (by omega) (by omega) (by omega) (fun f => by rw [k_chd_0 (Nat.le_refl _)]; rfl) _ _ hW hS _ (lv_sub hl [1, 2, 0] rfl)
end
section
abbrev rm_X2_personOn : Room := { frames := 0, cells := 0, slots := 0, locals := 0 }
set_option maxRecDepth 100000 in
set_option maxHeartbeats 4000000 in
theorem c_X2_personOn (l : Launch) (hlt : l.stackTraces = false) (g : k_g) (ad : k_AD) (t : k_T) (j : Nat) (hj : j < 365) : Met l yX2_personOn wsX2_personOn rm_X2_personOn (va_Pc [.ref (ad 7 0), .int (nI j)] (k_I g (k_ct g ad t) ad)) (va_Qi (fun r u => r = nI (r_p t j) ∧ u = t) (fun u U => k_H g ad u U.heap) (k_A g)) 0 0 (k_A g) := by
  refine k_met (cc := cX2_personOn) (maxL := 2) (ret := (some .int)) (by decide) rfl (Nat.le_of_ble_eq_true rfl) (fun p e s m args below meth c Q ls hQ hx hb hr hml hts hown hlk hin hK hZ hN hW hS hl => ?_)
  have hown : s.vm.findClass RX2 = some m.cls := hown
  have hW : k_H g ad t s.heap := hW
  have hl : lv_has ls 2 [(0, .ref (ad 7 0)), (1, .int (nI j))] := hl
  have hinX2 : ∀ w ∈ wsX20, w ∈ wsX2_personOn := by decide +kernel
  refine lv_iload_n hx hb dX2_personOn_0 rfl (lv_at hl 1 rfl) ?_
  refine k_if_lt (tgt := 22) hx hb (by omega) dX2_personOn_1 (by decide) ?_
  refine lv_iload_n hx hb dX2_personOn_4 rfl (lv_at hl 1 rfl) ?_
  refine lv_aload_n hx hb dX2_personOn_5 rfl (lv_at hl 0 rfl) ?_
  refine k_get (own := RX2) (C := RX2) (T := TX2) (N := 1) hx hb hts hinX2 hown hK hW (kc_7 g ad t) rfl 0 (by decide) (hts (.fieldLink RX2 9 "DrillVault$Rota" "persons" "[I") (by decide +kernel)) rfl (v := .ref (ad 8 0)) rfl dX2_personOn_6 ?_
  refine k_alen hx hb hK hW 0 rfl (kc_8 g ad t) (v := nI 365) rfl dX2_personOn_9 ?_
  refine k_icmp_ge (tgt := 22) hx hb (a := j) (b := 365) (by omega) (by decide) dX2_personOn_10 (by decide) (fun h_10 => absurd h_10 (by omega)) (fun h_10 => ?_)
  refine lv_aload_n hx hb dX2_personOn_13 rfl (lv_at hl 0 rfl) ?_
  refine k_get (own := RX2) (C := RX2) (T := TX2) (N := 1) hx hb hts hinX2 hown hK hW (kc_7 g ad t) rfl 0 (by decide) (hts (.fieldLink RX2 9 "DrillVault$Rota" "persons" "[I") (by decide +kernel)) rfl (v := .ref (ad 8 0)) rfl dX2_personOn_14 ?_
  refine lv_iload_n hx hb dX2_personOn_17 rfl (lv_at hl 1 rfl) ?_
  refine k_iald hx hb hK hW (kc_8 g ad t) j rfl (by omega) (by decide) dX2_personOn_18 ?_
  refine lv_goto (tgt := 23) hx hb dX2_personOn_19 (by decide) ?_
  exact k_ri hQ hx hb hr hlk hS hW ⟨rfl, rfl⟩ (Nat.le_of_ble_eq_true rfl) (Nat.le_of_ble_eq_true rfl) dX2_personOn_23
set_option maxRecDepth 100000 in
set_option maxHeartbeats 4000000 in
theorem c_X2_personOn_lo (l : Launch) (hlt : l.stackTraces = false) (g : k_g) (ad : k_AD) (t : k_T) (z : Int32) (hz : z < 0) : Met l yX2_personOn wsX2_personOn rm_X2_personOn (va_Pc [.ref (ad 7 0), .int z] (k_I g (k_ct g ad t) ad)) (va_Qi (fun r u => r = (-1) ∧ u = t) (fun u U => k_H g ad u U.heap) (k_A g)) 0 0 (k_A g) := by
  refine k_met (cc := cX2_personOn) (maxL := 2) (ret := (some .int)) (by decide) rfl (Nat.le_of_ble_eq_true rfl) (fun p e s m args below meth c Q ls hQ hx hb hr hml hts hown hlk hin hK hZ hN hW hS hl => ?_)
  have hown : s.vm.findClass RX2 = some m.cls := hown
  have hW : k_H g ad t s.heap := hW
  have hl : lv_has ls 2 [(0, .ref (ad 7 0)), (1, .int z)] := hl
  refine lv_iload_n hx hb dX2_personOn_0 rfl (lv_at hl 1 rfl) ?_
  refine lv_if_lt (tgt := 22) hx hb dX2_personOn_1 (by decide) (fun h_1 => ?_) (fun h_1 => absurd h_1 (fun q => q hz))
  refine lv_iconst (v := (-1)) hx hb dX2_personOn_22 (by decide) ?_
  exact k_ri hQ hx hb hr hlk hS hW ⟨rfl, rfl⟩ (Nat.le_of_ble_eq_true rfl) (Nat.le_of_ble_eq_true rfl) dX2_personOn_23
set_option maxRecDepth 100000 in
set_option maxHeartbeats 4000000 in
theorem c_X2_personOn_hi (l : Launch) (hlt : l.stackTraces = false) (g : k_g) (ad : k_AD) (t : k_T) (j : Nat) (hj : 365 ≤ j) (hj2 : j < 1000) : Met l yX2_personOn wsX2_personOn rm_X2_personOn (va_Pc [.ref (ad 7 0), .int (nI j)] (k_I g (k_ct g ad t) ad)) (va_Qi (fun r u => r = (-1) ∧ u = t) (fun u U => k_H g ad u U.heap) (k_A g)) 0 0 (k_A g) := by
  refine k_met (cc := cX2_personOn) (maxL := 2) (ret := (some .int)) (by decide) rfl (Nat.le_of_ble_eq_true rfl) (fun p e s m args below meth c Q ls hQ hx hb hr hml hts hown hlk hin hK hZ hN hW hS hl => ?_)
  have hown : s.vm.findClass RX2 = some m.cls := hown
  have hW : k_H g ad t s.heap := hW
  have hl : lv_has ls 2 [(0, .ref (ad 7 0)), (1, .int (nI j))] := hl
  have hinX2 : ∀ w ∈ wsX20, w ∈ wsX2_personOn := by decide +kernel
  refine lv_iload_n hx hb dX2_personOn_0 rfl (lv_at hl 1 rfl) ?_
  refine k_if_lt (tgt := 22) hx hb (by omega) dX2_personOn_1 (by decide) ?_
  refine lv_iload_n hx hb dX2_personOn_4 rfl (lv_at hl 1 rfl) ?_
  refine lv_aload_n hx hb dX2_personOn_5 rfl (lv_at hl 0 rfl) ?_
  refine k_get (own := RX2) (C := RX2) (T := TX2) (N := 1) hx hb hts hinX2 hown hK hW (kc_7 g ad t) rfl 0 (by decide) (hts (.fieldLink RX2 9 "DrillVault$Rota" "persons" "[I") (by decide +kernel)) rfl (v := .ref (ad 8 0)) rfl dX2_personOn_6 ?_
  refine k_alen hx hb hK hW 0 rfl (kc_8 g ad t) (v := nI 365) rfl dX2_personOn_9 ?_
  refine k_icmp_ge (tgt := 22) hx hb (a := j) (b := 365) (by omega) (by decide) dX2_personOn_10 (by decide) (fun h_10 => ?_) (fun h_10 => absurd h_10 (by omega))
  refine lv_iconst (v := (-1)) hx hb dX2_personOn_22 (by decide) ?_
  exact k_ri hQ hx hb hr hlk hS hW ⟨rfl, rfl⟩ (Nat.le_of_ble_eq_true rfl) (Nat.le_of_ble_eq_true rfl) dX2_personOn_23
abbrev rm_X2_exchange : Room := { frames := 0, cells := 0, slots := 0, locals := 0 }
set_option maxRecDepth 100000 in
set_option maxHeartbeats 4000000 in
theorem c_X2_exchange (l : Launch) (hlt : l.stackTraces = false) (g : k_g) (ad : k_AD) (t : k_T) (j : Nat) (k : Nat) (hj : j < 365) (hk : k < 365) : Met l yX2_exchange wsX2_exchange rm_X2_exchange (va_Pc [.ref (ad 7 0), .int (nI j), .int (nI k)] (k_I g (k_ct g ad t) ad)) (va_Qv (fun u => u = set_r_p t (va_up (va_up (r_p t) j (r_p t k)) k (r_p t j))) (fun u U => k_H g ad u U.heap) (k_A g)) 0 0 (k_A g) := by
  refine k_met (cc := cX2_exchange) (maxL := 4) (ret := none) (by decide) rfl (Nat.le_of_ble_eq_true rfl) (fun p e s m args below meth c Q ls hQ hx hb hr hml hts hown hlk hin hK hZ hN hW hS hl => ?_)
  have hown : s.vm.findClass RX2 = some m.cls := hown
  have hW : k_H g ad t s.heap := hW
  have hl : lv_has ls 4 [(0, .ref (ad 7 0)), (1, .int (nI j)), (2, .int (nI k))] := hl
  have hinX2 : ∀ w ∈ wsX20, w ∈ wsX2_exchange := by decide +kernel
  refine lv_iload_n hx hb dX2_exchange_0 rfl (lv_at hl 1 rfl) ?_
  refine k_if_lt (tgt := 26) hx hb (by omega) dX2_exchange_1 (by decide) ?_
  refine lv_iload_n hx hb dX2_exchange_4 rfl (lv_at hl 1 rfl) ?_
  refine lv_aload_n hx hb dX2_exchange_5 rfl (lv_at hl 0 rfl) ?_
  refine k_get (own := RX2) (C := RX2) (T := TX2) (N := 1) hx hb hts hinX2 hown hK hW (kc_7 g ad t) rfl 0 (by decide) (hts (.fieldLink RX2 9 "DrillVault$Rota" "persons" "[I") (by decide +kernel)) rfl (v := .ref (ad 8 0)) rfl dX2_exchange_6 ?_
  refine k_alen hx hb hK hW 0 rfl (kc_8 g ad t) (v := nI 365) rfl dX2_exchange_9 ?_
  refine k_icmp_ge (tgt := 26) hx hb (a := j) (b := 365) (by omega) (by decide) dX2_exchange_10 (by decide) (fun h_10 => absurd h_10 (by omega)) (fun h_10 => ?_)
  refine lv_iload_n hx hb dX2_exchange_13 rfl (lv_at hl 2 rfl) ?_
  refine k_if_lt (tgt := 26) hx hb (by omega) dX2_exchange_14 (by decide) ?_
  refine lv_iload_n hx hb dX2_exchange_17 rfl (lv_at hl 2 rfl) ?_
  refine lv_aload_n hx hb dX2_exchange_18 rfl (lv_at hl 0 rfl) ?_
  refine k_get (own := RX2) (C := RX2) (T := TX2) (N := 1) hx hb hts hinX2 hown hK hW (kc_7 g ad t) rfl 0 (by decide) (hts (.fieldLink RX2 9 "DrillVault$Rota" "persons" "[I") (by decide +kernel)) rfl (v := .ref (ad 8 0)) rfl dX2_exchange_19 ?_
  refine k_alen hx hb hK hW 0 rfl (kc_8 g ad t) (v := nI 365) rfl dX2_exchange_22 ?_
  refine k_icmp_lt (tgt := 27) hx hb (a := k) (b := 365) (by omega) (by decide) dX2_exchange_23 (by decide) (fun h_23 => ?_) (fun h_23 => absurd h_23 (by omega))
  refine lv_aload_n hx hb dX2_exchange_27 rfl (lv_at hl 0 rfl) ?_
  refine k_get (own := RX2) (C := RX2) (T := TX2) (N := 1) hx hb hts hinX2 hown hK hW (kc_7 g ad t) rfl 0 (by decide) (hts (.fieldLink RX2 9 "DrillVault$Rota" "persons" "[I") (by decide +kernel)) rfl (v := .ref (ad 8 0)) rfl dX2_exchange_28 ?_
  refine lv_iload_n hx hb dX2_exchange_31 rfl (lv_at hl 1 rfl) ?_
  refine k_iald hx hb hK hW (kc_8 g ad t) j rfl (by omega) (by decide) dX2_exchange_32 ?_
  refine lv_istore_n (lv' := [(3, .int (nI (r_p t j))), (0, .ref (ad 7 0)), (1, .int (nI j)), (2, .int (nI k))]) hx hb dX2_exchange_33 rfl hl (by decide) rfl (fun ls hl => ?_)
  refine lv_aload_n hx hb dX2_exchange_34 rfl (lv_at hl 1 rfl) ?_
  refine k_get (own := RX2) (C := RX2) (T := TX2) (N := 1) hx hb hts hinX2 hown hK hW (kc_7 g ad t) rfl 0 (by decide) (hts (.fieldLink RX2 9 "DrillVault$Rota" "persons" "[I") (by decide +kernel)) rfl (v := .ref (ad 8 0)) rfl dX2_exchange_35 ?_
  refine lv_iload_n hx hb dX2_exchange_38 rfl (lv_at hl 2 rfl) ?_
  refine lv_aload_n hx hb dX2_exchange_39 rfl (lv_at hl 1 rfl) ?_
  refine k_get (own := RX2) (C := RX2) (T := TX2) (N := 1) hx hb hts hinX2 hown hK hW (kc_7 g ad t) rfl 0 (by decide) (hts (.fieldLink RX2 9 "DrillVault$Rota" "persons" "[I") (by decide +kernel)) rfl (v := .ref (ad 8 0)) rfl dX2_exchange_40 ?_
  refine lv_iload_n hx hb dX2_exchange_43 rfl (lv_at hl 3 rfl) ?_
  refine k_iald hx hb hK hW (kc_8 g ad t) k rfl (by omega) (by decide) dX2_exchange_44 ?_
  refine k_iast hx hb hK hW hS (kc_8 g ad t) j rfl (by omega) (by decide) dX2_exchange_45 (fun H locs hW hS => ?_)
  have hW : k_H g ad (set_r_p t (va_up (r_p t) j (r_p t k))) H := kt_r_p (t := t) j (r_p t k) rfl hW
  refine lv_aload_n hx hb dX2_exchange_46 rfl (lv_at hl 1 rfl) ?_
  refine k_get (own := RX2) (C := RX2) (T := TX2) (N := 1) hx hb hts hinX2 hown hK hW (kc_7 g ad (set_r_p t (va_up (r_p t) j (r_p t k)))) rfl 0 (by decide) (hts (.fieldLink RX2 9 "DrillVault$Rota" "persons" "[I") (by decide +kernel)) rfl (v := .ref (ad 8 0)) rfl dX2_exchange_47 ?_
  refine lv_iload_n hx hb dX2_exchange_50 rfl (lv_at hl 3 rfl) ?_
  refine lv_iload_n hx hb dX2_exchange_51 rfl (lv_at hl 0 rfl) ?_
  refine k_iast hx hb hK hW hS (kc_8 g ad (set_r_p t (va_up (r_p t) j (r_p t k)))) k rfl (by omega) (by decide) dX2_exchange_52 (fun H locs hW hS => ?_)
  have hW : k_H g ad (set_r_p t (va_up (va_up (r_p t) j (r_p t k)) k (r_p t j))) H := kt_r_p (t := set_r_p t (va_up (r_p t) j (r_p t k))) k (r_p t j) rfl hW
  exact k_rv hQ hx hb hr hlk hS hW rfl (Nat.le_of_ble_eq_true rfl) (Nat.le_of_ble_eq_true rfl) dX2_exchange_53
abbrev rm_X0_hasDamagedChain : Room := { frames := 0, cells := 0, slots := 0, locals := 0 }
set_option maxRecDepth 100000 in
set_option maxHeartbeats 4000000 in
theorem c_X0_hasDamagedChain (l : Launch) (hlt : l.stackTraces = false) (g : k_g) (ad : k_AD) (t : k_T) (k0 : Nat) (hk : k0 < o_n t) (hbs : ∀ k b, k < o_n t → o_b t k = some b → b < o_n t ∧ b < k) : Met l yX0_hasDamagedChain wsX0_hasDamagedChain rm_X0_hasDamagedChain (va_Pc [.ref (ad 25 k0)] (k_I g (k_ct g ad t) ad)) (va_Qi (fun r u => r = kb ((k_cl (o_b t) k0).any (o_dm t)) ∧ u = t) (fun u U => k_H g ad u U.heap) (k_A g)) 0 0 (k_A g) := by
  refine k_met (cc := cX0_hasDamagedChain) (maxL := 2) (ret := (some .boolean)) (by decide) rfl (Nat.le_of_ble_eq_true rfl) (fun p e s m args below meth c Q ls hQ hx hb hr hml hts hown hlk hin hK hZ hN hW hS hl => ?_)
  have hown : s.vm.findClass RX0 = some m.cls := hown
  have hW : k_H g ad t s.heap := hW
  have hl : lv_has ls 2 [(0, .ref (ad 25 k0))] := hl
  have hinX0 : ∀ w ∈ wsX00, w ∈ wsX0_hasDamagedChain := by decide +kernel
  refine lv_aload_n hx hb dX0_hasDamagedChain_0 rfl (lv_at hl 0 rfl) ?_
  refine lv_astore_n (lv' := [(1, .ref (ad 25 k0)), (0, .ref (ad 25 k0))]) hx hb dX0_hasDamagedChain_1 rfl hl (by decide) rfl (fun ls hl => ?_)
  have hloop_2 : ∀ (n : Nat) (cur : Option Nat), (0 < n) → (∀ q, cur = some q → q + 1 < n ∧ q < o_n t) → ((k_cl (o_b t) k0).any (o_dm t) = (k_clo (o_b t) cur).any (o_dm t)) → ∀ (H : Heap) (locs : List Loc), k_H g ad t H → va_S (k_A g) s.heap H locs → ∀ (ls : Array Slot), lv_has ls 2 [(0, .ref (ad 25 k0)), (1, va_rf (cur.map (ad 25)))] → W p l e rm_X0_hasDamagedChain s m args below meth c H locs 0 0 Q (F0 m 2 ls []) := by
    intro n
    induction n with
    | zero =>
      intro cur hfu hck hz
      exact absurd hfu (by omega)
    | succ n ih =>
      intro cur hfu hck hz H locs hW hS ls hl
      rcases cur with _ | k
      · have hl : lv_has ls 2 [(0, .ref (ad 25 k0)), (1, .null)] := hl
        refine lv_aload_nN hx hb dX0_hasDamagedChain_2 rfl (lv_at hl 1 rfl) ?_
        refine lv_ifnullN (tgt := 23) hx hb dX0_hasDamagedChain_3 (by decide) ?_
        refine lv_iconst (v := nI 0) hx hb dX0_hasDamagedChain_23 (by decide) ?_
        exact k_rz hQ hx hb hr rfl hlk hS hW ⟨by rw [hz]; rfl, rfl⟩ (Nat.le_of_ble_eq_true rfl) (Nat.le_of_ble_eq_true rfl) dX0_hasDamagedChain_24
      · have hl : lv_has ls 2 [(0, .ref (ad 25 k0)), (1, .ref (ad 25 k))] := hl
        have hdk : ∀ b, o_b t k = some b → b < k := fun b hb => (hbs _ _ (hck _ rfl).2 hb).2
        rw [k_clo_some hdk] at hz
        refine lv_aload_n hx hb dX0_hasDamagedChain_2 rfl (lv_at hl 1 rfl) ?_
        refine lv_ifnull hx hb dX0_hasDamagedChain_3 ?_
        refine lv_aload_n hx hb dX0_hasDamagedChain_6 rfl (lv_at hl 1 rfl) ?_
        refine k_get (own := RX0) (C := RX0) (T := TX0) (N := 11) hx hb hts hinX0 hown hK hW (kc_25 g ad t (hck _ rfl).2) rfl 6 (by decide) (hts (.fieldLink RX0 32 "DrillVault$Copy" "damaged" "Z") (by decide +kernel)) rfl (v := .int (kb (o_dm t k))) rfl dX0_hasDamagedChain_7 ?_
        refine k_ifz_eq (tgt := 15) hx hb dX0_hasDamagedChain_10 (by decide) (fun h_10 => ?_) (fun h_10 => ?_)
        · refine lv_aload_n hx hb dX0_hasDamagedChain_15 rfl (lv_at hl 1 rfl) ?_
          refine k_get (own := RX0) (C := RX0) (T := TX0) (N := 11) hx hb hts hinX0 hown hK hW (kc_25 g ad t (hck _ rfl).2) rfl 2 (by decide) (hts (.fieldLink RX0 22 "DrillVault$Copy" "base" "LDrillVault$Copy;") (by decide +kernel)) rfl (v := va_rf ((o_b t k).map (ad 25))) rfl dX0_hasDamagedChain_16 ?_
          rcases hob_19 : o_b t k with _ | b_19
          · refine k_tov (y := .null) (by first | rfl | (rw [hob_19]; rfl)) ?_
            refine lv_astore_nN (lv' := [(1, .null), (0, .ref (ad 25 k0))]) hx hb dX0_hasDamagedChain_19 rfl hl (by decide) rfl (fun ls hl => ?_)
            refine lv_goto (tgt := 2) hx hb dX0_hasDamagedChain_20 (by decide) ?_
            exact ih none (by have := (hck _ rfl).1; omega) (fun q hq => by cases hq) (by rw [hz, List.any_cons, h_10, Bool.false_or, hob_19]) _ _ hW hS _ (lv_sub hl [1, 0] rfl)
          · refine k_tov (y := .ref (ad 25 b_19)) (by first | rfl | (rw [hob_19]; rfl)) ?_
            refine lv_astore_n (lv' := [(1, .ref (ad 25 b_19)), (0, .ref (ad 25 k0))]) hx hb dX0_hasDamagedChain_19 rfl hl (by decide) rfl (fun ls hl => ?_)
            refine lv_goto (tgt := 2) hx hb dX0_hasDamagedChain_20 (by decide) ?_
            exact ih (some b_19) (by have := (hck _ rfl).1; omega) (fun q hq => by cases hq; obtain ⟨h1, h2⟩ := hck _ rfl; obtain ⟨h3, h4⟩ := hbs _ _ h2 hob_19; exact ⟨by omega, h3⟩) (by rw [hz, List.any_cons, h_10, Bool.false_or, hob_19]) _ _ hW hS _ (lv_sub hl [1, 0] rfl)
        · refine lv_iconst (v := nI 1) hx hb dX0_hasDamagedChain_13 (by decide) ?_
          exact k_rz hQ hx hb hr rfl hlk hS hW ⟨by rw [hz, List.any_cons, h_10]; rfl, rfl⟩ (Nat.le_of_ble_eq_true rfl) (Nat.le_of_ble_eq_true rfl) dX0_hasDamagedChain_14
  exact hloop_2 (k0 + 2) (some k0) (by omega) (fun q hq => by cases hq; exact ⟨by omega, hk⟩) rfl _ _ hW hS _ (lv_sub hl [1, 0] rfl)
abbrev rm_X0_proveChain : Room := { frames := 0, cells := 0, slots := 0, locals := 0 }
set_option maxRecDepth 100000 in
set_option maxHeartbeats 4000000 in
theorem c_X0_proveChain (l : Launch) (hlt : l.stackTraces = false) (g : k_g) (ad : k_AD) (t : k_T) (k0 : Nat) (v : Bool) (hk : k0 < o_n t) (hbs : ∀ k b, k < o_n t → o_b t k = some b → b < o_n t ∧ b < k) : Met l yX0_proveChain wsX0_proveChain rm_X0_proveChain (va_Pc [.ref (ad 25 k0), .int (kb v)] (k_I g (k_ct g ad t) ad)) (va_Qv (fun u => u = set_o_pv t (fun j => if (k_cl (o_b t) k0).contains j = true then v else (o_pv t) j)) (fun u U => k_H g ad u U.heap) (k_A g)) 0 0 (k_A g) := by
  refine k_met (cc := cX0_proveChain) (maxL := 3) (ret := none) (by decide) rfl (Nat.le_of_ble_eq_true rfl) (fun p e s m args below meth c Q ls hQ hx hb hr hml hts hown hlk hin hK hZ hN hW hS hl => ?_)
  have hown : s.vm.findClass RX0 = some m.cls := hown
  have hW : k_H g ad t s.heap := hW
  have hl : lv_has ls 3 [(0, .ref (ad 25 k0)), (1, .int (kb v))] := hl
  have hinX0 : ∀ w ∈ wsX00, w ∈ wsX0_proveChain := by decide +kernel
  refine lv_aload_n hx hb dX0_proveChain_0 rfl (lv_at hl 0 rfl) ?_
  refine lv_astore_n (lv' := [(2, .ref (ad 25 k0)), (0, .ref (ad 25 k0)), (1, .int (kb v))]) hx hb dX0_proveChain_1 rfl hl (by decide) rfl (fun ls hl => ?_)
  have hloop_2 : ∀ (n : Nat) (cur : Option Nat) (PV : Nat → Bool), (0 < n) → (∀ q, cur = some q → q + 1 < n ∧ q < o_n t) → (∀ j, (fun j => if (k_cl (o_b t) k0).contains j = true then v else o_pv t j) j = if (k_clo (o_b t) cur).contains j = true then v else PV j) → ∀ (H : Heap) (locs : List Loc), k_H g ad (set_o_pv t PV) H → va_S (k_A g) s.heap H locs → ∀ (ls : Array Slot), lv_has ls 3 [(0, .ref (ad 25 k0)), (1, .int (kb v)), (2, va_rf (cur.map (ad 25)))] → W p l e rm_X0_proveChain s m args below meth c H locs 0 0 Q (F0 m 2 ls []) := by
    intro n
    induction n with
    | zero =>
      intro cur PV hfu hck hz
      exact absurd hfu (by omega)
    | succ n ih =>
      intro cur PV hfu hck hz H locs hW hS ls hl
      rcases cur with _ | k
      · have hl : lv_has ls 3 [(0, .ref (ad 25 k0)), (1, .int (kb v)), (2, .null)] := hl
        refine lv_aload_nN hx hb dX0_proveChain_2 rfl (lv_at hl 2 rfl) ?_
        refine lv_ifnullN (tgt := 19) hx hb dX0_proveChain_3 (by decide) ?_
        exact k_rv hQ hx hb hr hlk hS hW (by rw [show PV = (fun j => if (k_cl (o_b t) k0).contains j = true then v else o_pv t j) from funext fun j => (hz j).symm]) (Nat.le_of_ble_eq_true rfl) (Nat.le_of_ble_eq_true rfl) dX0_proveChain_19
      · have hl : lv_has ls 3 [(0, .ref (ad 25 k0)), (1, .int (kb v)), (2, .ref (ad 25 k))] := hl
        have hdk : ∀ b, o_b t k = some b → b < k := fun b hb => (hbs _ _ (hck _ rfl).2 hb).2
        rw [k_clo_some hdk] at hz
        refine lv_aload_n hx hb dX0_proveChain_2 rfl (lv_at hl 2 rfl) ?_
        refine lv_ifnull hx hb dX0_proveChain_3 ?_
        refine lv_aload_n hx hb dX0_proveChain_6 rfl (lv_at hl 2 rfl) ?_
        refine lv_iload_n hx hb dX0_proveChain_7 rfl (lv_at hl 1 rfl) ?_
        refine k_put (own := RX0) (C := RX0) (T := TX0) (N := 11) hx hb hts hinX0 tyX0 tyX0_ok nmX0 hown hK hW hS (kc_25 g ad (set_o_pv t PV) (hck _ rfl).2) rfl 7 (by decide) (hts (.fieldLink RX0 36 "DrillVault$Copy" "proved" "Z") (by decide +kernel)) rfl rfl (ty := tyX0 7) (v := .int (kb v)) (tyX0_ok 7 (by decide)) (kb_nar _) (kb_fit _) (Nat.le_of_ble_eq_true rfl) dX0_proveChain_8 (fun H locs hW hS => ?_)
        have hW : k_H g ad (set_o_pv t (va_up PV k v)) H := kt_o_pv (t := set_o_pv t PV) k (hck _ rfl).2 v rfl hW
        refine lv_aload_n hx hb dX0_proveChain_11 rfl (lv_at hl 2 rfl) ?_
        refine k_get (own := RX0) (C := RX0) (T := TX0) (N := 11) hx hb hts hinX0 hown hK hW (kc_25 g ad (set_o_pv t (va_up PV k v)) (hck _ rfl).2) rfl 2 (by decide) (hts (.fieldLink RX0 22 "DrillVault$Copy" "base" "LDrillVault$Copy;") (by decide +kernel)) rfl (v := va_rf ((o_b t k).map (ad 25))) rfl dX0_proveChain_12 ?_
        rcases hob_15 : o_b t k with _ | b_15
        · refine k_tov (y := .null) (by first | rfl | (rw [hob_15]; rfl)) ?_
          refine lv_astore_nN (lv' := [(2, .null), (0, .ref (ad 25 k0)), (1, .int (kb v))]) hx hb dX0_proveChain_15 rfl hl (by decide) rfl (fun ls hl => ?_)
          refine lv_goto (tgt := 2) hx hb dX0_proveChain_16 (by decide) ?_
          exact ih none (va_up PV k v) (by have := (hck _ rfl).1; omega) (fun q hq => by cases hq) (by have h9 := k_pv_step hz; rw [hob_15] at h9; exact h9) _ _ hW hS _ (lv_sub hl [1, 2, 0] rfl)
        · refine k_tov (y := .ref (ad 25 b_15)) (by first | rfl | (rw [hob_15]; rfl)) ?_
          refine lv_astore_n (lv' := [(2, .ref (ad 25 b_15)), (0, .ref (ad 25 k0)), (1, .int (kb v))]) hx hb dX0_proveChain_15 rfl hl (by decide) rfl (fun ls hl => ?_)
          refine lv_goto (tgt := 2) hx hb dX0_proveChain_16 (by decide) ?_
          exact ih (some b_15) (va_up PV k v) (by have := (hck _ rfl).1; omega) (fun q hq => by cases hq; obtain ⟨h1, h2⟩ := hck _ rfl; obtain ⟨h3, h4⟩ := hbs _ _ h2 hob_15; exact ⟨by omega, h3⟩) (by have h9 := k_pv_step hz; rw [hob_15] at h9; exact h9) _ _ hW hS _ (lv_sub hl [1, 2, 0] rfl)
  exact hloop_2 (k0 + 2) (some k0) (o_pv t) (by omega) (fun q hq => by cases hq; exact ⟨by omega, hk⟩) (fun j => rfl) _ _ hW hS _ (lv_sub hl [1, 2, 0] rfl)
abbrev rm_X0_chainLength : Room := { frames := 0, cells := 0, slots := 0, locals := 0 }
set_option maxRecDepth 100000 in
set_option maxHeartbeats 4000000 in
theorem c_X0_chainLength (l : Launch) (hlt : l.stackTraces = false) (g : k_g) (ad : k_AD) (t : k_T) (k0 : Nat) (hk : k0 < o_n t) (hbs : ∀ k b, k < o_n t → o_b t k = some b → b < o_n t ∧ b < k) : Met l yX0_chainLength wsX0_chainLength rm_X0_chainLength (va_Pc [.ref (ad 25 k0)] (k_I g (k_ct g ad t) ad)) (va_Qi (fun r u => r = nI ((k_cl (o_b t) k0).length) ∧ u = t) (fun u U => k_H g ad u U.heap) (k_A g)) 0 0 (k_A g) := by
  refine k_met (cc := cX0_chainLength) (maxL := 3) (ret := (some .int)) (by decide) rfl (Nat.le_of_ble_eq_true rfl) (fun p e s m args below meth c Q ls hQ hx hb hr hml hts hown hlk hin hK hZ hN hW hS hl => ?_)
  have hown : s.vm.findClass RX0 = some m.cls := hown
  have hW : k_H g ad t s.heap := hW
  have hl : lv_has ls 3 [(0, .ref (ad 25 k0))] := hl
  have hinX0 : ∀ w ∈ wsX00, w ∈ wsX0_chainLength := by decide +kernel
  refine lv_iconst (v := nI 0) hx hb dX0_chainLength_0 (by decide) ?_
  refine lv_istore_n (lv' := [(1, .int (nI 0)), (0, .ref (ad 25 k0))]) hx hb dX0_chainLength_1 rfl hl (by decide) rfl (fun ls hl => ?_)
  refine lv_aload_n hx hb dX0_chainLength_2 rfl (lv_at hl 1 rfl) ?_
  refine lv_astore_n (lv' := [(2, .ref (ad 25 k0)), (1, .int (nI 0)), (0, .ref (ad 25 k0))]) hx hb dX0_chainLength_3 rfl hl (by decide) rfl (fun ls hl => ?_)
  have hloop_4 : ∀ (n : Nat) (cur : Option Nat) (cn : Nat), (0 < n) → (∀ q, cur = some q → q + 1 < n ∧ q < o_n t) → ((k_cl (o_b t) k0).length = cn + (k_clo (o_b t) cur).length) → ∀ (H : Heap) (locs : List Loc), k_H g ad t H → va_S (k_A g) s.heap H locs → ∀ (ls : Array Slot), lv_has ls 3 [(0, .ref (ad 25 k0)), (1, .int (nI cn)), (2, va_rf (cur.map (ad 25)))] → W p l e rm_X0_chainLength s m args below meth c H locs 0 0 Q (F0 m 4 ls []) := by
    intro n
    induction n with
    | zero =>
      intro cur cn hfu hck hz
      exact absurd hfu (by omega)
    | succ n ih =>
      intro cur cn hfu hck hz H locs hW hS ls hl
      rcases cur with _ | k
      · have hl : lv_has ls 3 [(0, .ref (ad 25 k0)), (1, .int (nI cn)), (2, .null)] := hl
        refine lv_aload_nN hx hb dX0_chainLength_4 rfl (lv_at hl 2 rfl) ?_
        refine lv_ifnullN (tgt := 19) hx hb dX0_chainLength_5 (by decide) ?_
        refine lv_iload_n hx hb dX0_chainLength_19 rfl (lv_at hl 1 rfl) ?_
        exact k_ri hQ hx hb hr hlk hS hW ⟨by rw [hz]; rfl, rfl⟩ (Nat.le_of_ble_eq_true rfl) (Nat.le_of_ble_eq_true rfl) dX0_chainLength_20
      · have hl : lv_has ls 3 [(0, .ref (ad 25 k0)), (1, .int (nI cn)), (2, .ref (ad 25 k))] := hl
        have hdk : ∀ b, o_b t k = some b → b < k := fun b hb => (hbs _ _ (hck _ rfl).2 hb).2
        rw [k_clo_some hdk] at hz
        refine lv_aload_n hx hb dX0_chainLength_4 rfl (lv_at hl 2 rfl) ?_
        refine lv_ifnull hx hb dX0_chainLength_5 ?_
        refine lv_iinc (v := nI (cn + 1)) (lv' := [(1, .int (nI (cn + 1))), (0, .ref (ad 25 k0)), (2, .ref (ad 25 k))]) hx hb dX0_chainLength_8 hl (k := 1) rfl (nI_add _ _) (by decide) rfl (fun ls hl => ?_)
        refine lv_aload_n hx hb dX0_chainLength_11 rfl (lv_at hl 2 rfl) ?_
        refine k_get (own := RX0) (C := RX0) (T := TX0) (N := 11) hx hb hts hinX0 hown hK hW (kc_25 g ad t (hck _ rfl).2) rfl 2 (by decide) (hts (.fieldLink RX0 22 "DrillVault$Copy" "base" "LDrillVault$Copy;") (by decide +kernel)) rfl (v := va_rf ((o_b t k).map (ad 25))) rfl dX0_chainLength_12 ?_
        rcases hob_15 : o_b t k with _ | b_15
        · refine k_tov (y := .null) (by first | rfl | (rw [hob_15]; rfl)) ?_
          refine lv_astore_nN (lv' := [(2, .null), (1, .int (nI (cn + 1))), (0, .ref (ad 25 k0))]) hx hb dX0_chainLength_15 rfl hl (by decide) rfl (fun ls hl => ?_)
          refine lv_goto (tgt := 4) hx hb dX0_chainLength_16 (by decide) ?_
          exact ih none (cn + 1) (by have := (hck _ rfl).1; omega) (fun q hq => by cases hq) (by rw [hz, List.length_cons, hob_15]; omega) _ _ hW hS _ (lv_sub hl [2, 1, 0] rfl)
        · refine k_tov (y := .ref (ad 25 b_15)) (by first | rfl | (rw [hob_15]; rfl)) ?_
          refine lv_astore_n (lv' := [(2, .ref (ad 25 b_15)), (1, .int (nI (cn + 1))), (0, .ref (ad 25 k0))]) hx hb dX0_chainLength_15 rfl hl (by decide) rfl (fun ls hl => ?_)
          refine lv_goto (tgt := 4) hx hb dX0_chainLength_16 (by decide) ?_
          exact ih (some b_15) (cn + 1) (by have := (hck _ rfl).1; omega) (fun q hq => by cases hq; obtain ⟨h1, h2⟩ := hck _ rfl; obtain ⟨h3, h4⟩ := hbs _ _ h2 hob_15; exact ⟨by omega, h3⟩) (by rw [hz, List.length_cons, hob_15]; omega) _ _ hW hS _ (lv_sub hl [2, 1, 0] rfl)
  exact hloop_4 (k0 + 2) (some k0) 0 (by omega) (fun q hq => by cases hq; exact ⟨by omega, hk⟩) (Nat.zero_add _).symm _ _ hW hS _ (lv_sub hl [2, 1, 0] rfl)
abbrev rm_X0_contentByChain : Room := { frames := 0, cells := 0, slots := 0, locals := 0 }
set_option maxRecDepth 100000 in
set_option maxHeartbeats 4000000 in
theorem c_X0_contentByChain (l : Launch) (hlt : l.stackTraces = false) (g : k_g) (ad : k_AD) (t : k_T) (k0 : Nat) (j : Nat) (hk : k0 < o_n t) (hj : j < 10) (hbs : ∀ k b, k < o_n t → o_b t k = some b → b < o_n t ∧ b < k) : Met l yX0_contentByChain wsX0_contentByChain rm_X0_contentByChain (va_Pc [.ref (ad 25 k0), .int (nI j)] (k_I g (k_ct g ad t) ad)) (va_Qi (fun r u => r = k_fk (o_k t) j (k_cl (o_b t) k0) ∧ u = t) (fun u U => k_H g ad u U.heap) (k_A g)) 0 0 (k_A g) := by
  refine k_met (cc := cX0_contentByChain) (maxL := 3) (ret := (some .int)) (by decide) rfl (Nat.le_of_ble_eq_true rfl) (fun p e s m args below meth c Q ls hQ hx hb hr hml hts hown hlk hin hK hZ hN hW hS hl => ?_)
  have hown : s.vm.findClass RX0 = some m.cls := hown
  have hW : k_H g ad t s.heap := hW
  have hl : lv_has ls 3 [(0, .ref (ad 25 k0)), (1, .int (nI j))] := hl
  have hinX0 : ∀ w ∈ wsX00, w ∈ wsX0_contentByChain := by decide +kernel
  refine lv_iload_n hx hb dX0_contentByChain_0 rfl (lv_at hl 1 rfl) ?_
  refine k_if_lt (tgt := 10) hx hb (by omega) dX0_contentByChain_1 (by decide) ?_
  refine lv_iload_n hx hb dX0_contentByChain_4 rfl (lv_at hl 1 rfl) ?_
  refine lv_bipush (v := nI 10) hx hb dX0_contentByChain_5 (by decide) ?_
  refine k_icmp_lt (tgt := 12) hx hb (a := j) (b := 10) (by omega) (by decide) dX0_contentByChain_7 (by decide) (fun h_7 => ?_) (fun h_7 => absurd h_7 (by omega))
  refine lv_aload_n hx hb dX0_contentByChain_12 rfl (lv_at hl 0 rfl) ?_
  refine lv_astore_n (lv' := [(2, .ref (ad 25 k0)), (0, .ref (ad 25 k0)), (1, .int (nI j))]) hx hb dX0_contentByChain_13 rfl hl (by decide) rfl (fun ls hl => ?_)
  have hloop_14 : ∀ (n : Nat) (cur : Option Nat), (0 < n) → (∀ q, cur = some q → q + 1 < n ∧ q < o_n t) → (k_fk (o_k t) j (k_cl (o_b t) k0) = k_fk (o_k t) j (k_clo (o_b t) cur)) → ∀ (H : Heap) (locs : List Loc), k_H g ad t H → va_S (k_A g) s.heap H locs → ∀ (ls : Array Slot), lv_has ls 3 [(0, .ref (ad 25 k0)), (1, .int (nI j)), (2, va_rf (cur.map (ad 25)))] → W p l e rm_X0_contentByChain s m args below meth c H locs 0 0 Q (F0 m 14 ls []) := by
    intro n
    induction n with
    | zero =>
      intro cur hfu hck hz
      exact absurd hfu (by omega)
    | succ n ih =>
      intro cur hfu hck hz H locs hW hS ls hl
      rcases cur with _ | k
      · have hl : lv_has ls 3 [(0, .ref (ad 25 k0)), (1, .int (nI j)), (2, .null)] := hl
        refine lv_aload_nN hx hb dX0_contentByChain_14 rfl (lv_at hl 2 rfl) ?_
        refine lv_ifnullN (tgt := 52) hx hb dX0_contentByChain_15 (by decide) ?_
        refine lv_iconst (v := (-1)) hx hb dX0_contentByChain_52 (by decide) ?_
        exact k_ri hQ hx hb hr hlk hS hW ⟨by rw [hz]; rfl, rfl⟩ (Nat.le_of_ble_eq_true rfl) (Nat.le_of_ble_eq_true rfl) dX0_contentByChain_53
      · have hl : lv_has ls 3 [(0, .ref (ad 25 k0)), (1, .int (nI j)), (2, .ref (ad 25 k))] := hl
        have hdk : ∀ b, o_b t k = some b → b < k := fun b hb => (hbs _ _ (hck _ rfl).2 hb).2
        rw [k_clo_some hdk] at hz
        refine lv_aload_n hx hb dX0_contentByChain_14 rfl (lv_at hl 2 rfl) ?_
        refine lv_ifnull hx hb dX0_contentByChain_15 ?_
        refine lv_iload_n hx hb dX0_contentByChain_18 rfl (lv_at hl 1 rfl) ?_
        refine lv_aload_n hx hb dX0_contentByChain_19 rfl (lv_at hl 2 rfl) ?_
        refine k_get (own := RX0) (C := RX0) (T := TX0) (N := 11) hx hb hts hinX0 hown hK hW (kc_25 g ad t (hck _ rfl).2) rfl 4 (by decide) (hts (.fieldLink RX0 9 "DrillVault$Copy" "kept" "[I") (by decide +kernel)) rfl (v := .ref (ad 26 k)) rfl dX0_contentByChain_20 ?_
        refine k_alen hx hb hK hW 0 rfl (kc_26 g ad t (hck _ rfl).2) (v := nI 10) rfl dX0_contentByChain_23 ?_
        refine k_icmp_ge (tgt := 44) hx hb (a := j) (b := 10) (by omega) (by decide) dX0_contentByChain_24 (by decide) (fun h_24 => absurd h_24 (by omega)) (fun h_24 => ?_)
        refine lv_aload_n hx hb dX0_contentByChain_27 rfl (lv_at hl 2 rfl) ?_
        refine k_get (own := RX0) (C := RX0) (T := TX0) (N := 11) hx hb hts hinX0 hown hK hW (kc_25 g ad t (hck _ rfl).2) rfl 4 (by decide) (hts (.fieldLink RX0 9 "DrillVault$Copy" "kept" "[I") (by decide +kernel)) rfl (v := .ref (ad 26 k)) rfl dX0_contentByChain_28 ?_
        refine lv_iload_n hx hb dX0_contentByChain_31 rfl (lv_at hl 1 rfl) ?_
        refine k_iald hx hb hK hW (kc_26 g ad t (hck _ rfl).2) j rfl (by omega) (by decide) dX0_contentByChain_32 ?_
        refine lv_iconst (v := (-1)) hx hb dX0_contentByChain_33 (by decide) ?_
        refine lv_icmp_eq (tgt := 44) hx hb dX0_contentByChain_34 (by decide) (fun h_34 => ?_) (fun h_34 => ?_)
        · refine lv_aload_n hx hb dX0_contentByChain_44 rfl (lv_at hl 2 rfl) ?_
          refine k_get (own := RX0) (C := RX0) (T := TX0) (N := 11) hx hb hts hinX0 hown hK hW (kc_25 g ad t (hck _ rfl).2) rfl 2 (by decide) (hts (.fieldLink RX0 22 "DrillVault$Copy" "base" "LDrillVault$Copy;") (by decide +kernel)) rfl (v := va_rf ((o_b t k).map (ad 25))) rfl dX0_contentByChain_45 ?_
          rcases hob_48 : o_b t k with _ | b_48
          · refine k_tov (y := .null) (by first | rfl | (rw [hob_48]; rfl)) ?_
            refine lv_astore_nN (lv' := [(2, .null), (0, .ref (ad 25 k0)), (1, .int (nI j))]) hx hb dX0_contentByChain_48 rfl hl (by decide) rfl (fun ls hl => ?_)
            refine lv_goto (tgt := 14) hx hb dX0_contentByChain_49 (by decide) ?_
            exact ih none (by have := (hck _ rfl).1; omega) (fun q hq => by cases hq) (by rw [hz, k_fk, if_pos h_34, hob_48]) _ _ hW hS _ (lv_sub hl [1, 2, 0] rfl)
          · refine k_tov (y := .ref (ad 25 b_48)) (by first | rfl | (rw [hob_48]; rfl)) ?_
            refine lv_astore_n (lv' := [(2, .ref (ad 25 b_48)), (0, .ref (ad 25 k0)), (1, .int (nI j))]) hx hb dX0_contentByChain_48 rfl hl (by decide) rfl (fun ls hl => ?_)
            refine lv_goto (tgt := 14) hx hb dX0_contentByChain_49 (by decide) ?_
            exact ih (some b_48) (by have := (hck _ rfl).1; omega) (fun q hq => by cases hq; obtain ⟨h1, h2⟩ := hck _ rfl; obtain ⟨h3, h4⟩ := hbs _ _ h2 hob_48; exact ⟨by omega, h3⟩) (by rw [hz, k_fk, if_pos h_34, hob_48]) _ _ hW hS _ (lv_sub hl [1, 2, 0] rfl)
        · refine lv_aload_n hx hb dX0_contentByChain_37 rfl (lv_at hl 2 rfl) ?_
          refine k_get (own := RX0) (C := RX0) (T := TX0) (N := 11) hx hb hts hinX0 hown hK hW (kc_25 g ad t (hck _ rfl).2) rfl 4 (by decide) (hts (.fieldLink RX0 9 "DrillVault$Copy" "kept" "[I") (by decide +kernel)) rfl (v := .ref (ad 26 k)) rfl dX0_contentByChain_38 ?_
          refine lv_iload_n hx hb dX0_contentByChain_41 rfl (lv_at hl 1 rfl) ?_
          refine k_iald hx hb hK hW (kc_26 g ad t (hck _ rfl).2) j rfl (by omega) (by decide) dX0_contentByChain_42 ?_
          exact k_ri hQ hx hb hr hlk hS hW ⟨by rw [hz, k_fk, if_neg h_34], rfl⟩ (Nat.le_of_ble_eq_true rfl) (Nat.le_of_ble_eq_true rfl) dX0_contentByChain_43
  exact hloop_14 (k0 + 2) (some k0) (by omega) (fun q hq => by cases hq; exact ⟨by omega, hk⟩) rfl _ _ hW hS _ (lv_sub hl [1, 2, 0] rfl)
abbrev rm_X0_markChainNeeded : Room := { frames := 0, cells := 0, slots := 0, locals := 0 }
set_option maxRecDepth 100000 in
set_option maxHeartbeats 4000000 in
theorem c_X0_markChainNeeded (l : Launch) (hlt : l.stackTraces = false) (g : k_g) (ad : k_AD) (t : k_T) (k0 : Nat) (hk : k0 < o_n t) (hbs : ∀ k b, k < o_n t → o_b t k = some b → b < o_n t ∧ b < k) (hk0 : s_th t k0 = true) (hth : ∀ j b, s_th t j = true → o_b t j = some b → s_th t b = true) (hnc : ∀ j b, s_th t j = true → o_nd t j = true → o_b t j = some b → o_nd t b = true) (hwf : ∀ j, s_th t j = true → j < o_n t) : Met l yX0_markChainNeeded wsX0_markChainNeeded rm_X0_markChainNeeded (va_Pc [.ref (ad 25 k0)] (k_I g (k_ct g ad t) ad)) (va_Qv (fun u => u = set_o_nd t (fun j => (o_nd t) j || (k_cl (o_b t) k0).contains j)) (fun u U => k_H g ad u U.heap) (k_A g)) 0 0 (k_A g) := by
  refine k_met (cc := cX0_markChainNeeded) (maxL := 2) (ret := none) (by decide) rfl (Nat.le_of_ble_eq_true rfl) (fun p e s m args below meth c Q ls hQ hx hb hr hml hts hown hlk hin hK hZ hN hW hS hl => ?_)
  have hown : s.vm.findClass RX0 = some m.cls := hown
  have hW : k_H g ad t s.heap := hW
  have hl : lv_has ls 2 [(0, .ref (ad 25 k0))] := hl
  have hinX0 : ∀ w ∈ wsX00, w ∈ wsX0_markChainNeeded := by decide +kernel
  refine lv_aload_n hx hb dX0_markChainNeeded_0 rfl (lv_at hl 0 rfl) ?_
  refine lv_astore_n (lv' := [(1, .ref (ad 25 k0)), (0, .ref (ad 25 k0))]) hx hb dX0_markChainNeeded_1 rfl hl (by decide) rfl (fun ls hl => ?_)
  have hloop_2 : ∀ (n : Nat) (cur : Option Nat) (N : Nat → Bool), (0 < n) → (∀ q, cur = some q → q + 1 < n ∧ q < o_n t) → (∀ j, (fun j => o_nd t j || (k_cl (o_b t) k0).contains j) j = (N j || (k_clo (o_b t) cur).contains j)) → (∀ j, N j = true → ∀ q, cur = some q → j ≤ q → o_nd t j = true) → (∀ j, o_nd t j = true → N j = true) → (∀ q, cur = some q → s_th t q = true) → ∀ (H : Heap) (locs : List Loc), k_H g ad (set_o_nd t N) H → va_S (k_A g) s.heap H locs → ∀ (ls : Array Slot), lv_has ls 2 [(0, .ref (ad 25 k0)), (1, va_rf (cur.map (ad 25)))] → W p l e rm_X0_markChainNeeded s m args below meth c H locs 0 0 Q (F0 m 2 ls []) := by
    intro n
    induction n with
    | zero =>
      intro cur N hfu hck hz h1 h2 hcs
      exact absurd hfu (by omega)
    | succ n ih =>
      intro cur N hfu hck hz h1 h2 hcs H locs hW hS ls hl
      rcases cur with _ | k
      · have hl : lv_has ls 2 [(0, .ref (ad 25 k0)), (1, .null)] := hl
        refine lv_aload_nN hx hb dX0_markChainNeeded_2 rfl (lv_at hl 1 rfl) ?_
        refine lv_ifnullN (tgt := 26) hx hb dX0_markChainNeeded_3 (by decide) ?_
        exact k_rv hQ hx hb hr hlk hS hW (by rw [show N = (fun j => o_nd t j || (k_cl (o_b t) k0).contains j) from k_nd_stop hz (fun j hj => by cases hj)]) (Nat.le_of_ble_eq_true rfl) (Nat.le_of_ble_eq_true rfl) dX0_markChainNeeded_26
      · have hl : lv_has ls 2 [(0, .ref (ad 25 k0)), (1, .ref (ad 25 k))] := hl
        have hdk : ∀ b, o_b t k = some b → b < k := fun b hb => (hbs _ _ (hck _ rfl).2 hb).2
        have hzs := hz
        rw [k_clo_some hdk] at hz
        refine lv_aload_n hx hb dX0_markChainNeeded_2 rfl (lv_at hl 1 rfl) ?_
        refine lv_ifnull hx hb dX0_markChainNeeded_3 ?_
        refine lv_aload_n hx hb dX0_markChainNeeded_6 rfl (lv_at hl 1 rfl) ?_
        refine k_get (own := RX0) (C := RX0) (T := TX0) (N := 11) hx hb hts hinX0 hown hK hW (kc_25 g ad (set_o_nd t N) (hck _ rfl).2) rfl 9 (by decide) (hts (.fieldLink RX0 39 "DrillVault$Copy" "needed" "Z") (by decide +kernel)) rfl (v := .int (kb (N k))) rfl dX0_markChainNeeded_7 ?_
        refine k_ifz_ne (tgt := 26) hx hb dX0_markChainNeeded_10 (by decide) (fun h_10 => ?_) (fun h_10 => ?_)
        · exact k_rv hQ hx hb hr hlk hS hW (by rw [show N = (fun j => o_nd t j || (k_cl (o_b t) k0).contains j) from k_nd_stop hzs (fun j hj => h2 j (k_nd_closed hth hnc (fun j b h hb => (hbs _ _ (hwf _ h) hb).2) k (hcs _ rfl) (h1 k h_10 k rfl (Nat.le_refl _)) j hj))]) (Nat.le_of_ble_eq_true rfl) (Nat.le_of_ble_eq_true rfl) dX0_markChainNeeded_26
        · refine lv_aload_n hx hb dX0_markChainNeeded_13 rfl (lv_at hl 1 rfl) ?_
          refine lv_iconst (v := nI 1) hx hb dX0_markChainNeeded_14 (by decide) ?_
          refine k_put (own := RX0) (C := RX0) (T := TX0) (N := 11) hx hb hts hinX0 tyX0 tyX0_ok nmX0 hown hK hW hS (kc_25 g ad (set_o_nd t N) (hck _ rfl).2) rfl 9 (by decide) (hts (.fieldLink RX0 39 "DrillVault$Copy" "needed" "Z") (by decide +kernel)) rfl rfl (ty := tyX0 9) (v := .int (nI 1)) (tyX0_ok 9 (by decide)) rfl rfl (Nat.le_of_ble_eq_true rfl) dX0_markChainNeeded_15 (fun H locs hW hS => ?_)
          have hW : k_H g ad (set_o_nd t (va_up N k true)) H := kt_o_nd (t := set_o_nd t N) k (hck _ rfl).2 true rfl hW
          refine lv_aload_n hx hb dX0_markChainNeeded_18 rfl (lv_at hl 1 rfl) ?_
          refine k_get (own := RX0) (C := RX0) (T := TX0) (N := 11) hx hb hts hinX0 hown hK hW (kc_25 g ad (set_o_nd t (va_up N k true)) (hck _ rfl).2) rfl 2 (by decide) (hts (.fieldLink RX0 22 "DrillVault$Copy" "base" "LDrillVault$Copy;") (by decide +kernel)) rfl (v := va_rf ((o_b t k).map (ad 25))) rfl dX0_markChainNeeded_19 ?_
          rcases hob_22 : o_b t k with _ | b_22
          · refine k_tov (y := .null) (by first | rfl | (rw [hob_22]; rfl)) ?_
            refine lv_astore_nN (lv' := [(1, .null), (0, .ref (ad 25 k0))]) hx hb dX0_markChainNeeded_22 rfl hl (by decide) rfl (fun ls hl => ?_)
            refine lv_goto (tgt := 2) hx hb dX0_markChainNeeded_23 (by decide) ?_
            exact ih none (va_up N k true) (by have := (hck _ rfl).1; omega) (fun q hq => by cases hq) (by have h9 := k_nd_step hz; rw [hob_22] at h9; exact h9) (k_nd_h1 h1 (by rw [← hob_22]; exact hdk)) (k_nd_h2 h2) (by rw [← hob_22]; exact fun q hq => hth _ _ (hcs _ rfl) hq) _ _ hW hS _ (lv_sub hl [1, 0] rfl)
          · refine k_tov (y := .ref (ad 25 b_22)) (by first | rfl | (rw [hob_22]; rfl)) ?_
            refine lv_astore_n (lv' := [(1, .ref (ad 25 b_22)), (0, .ref (ad 25 k0))]) hx hb dX0_markChainNeeded_22 rfl hl (by decide) rfl (fun ls hl => ?_)
            refine lv_goto (tgt := 2) hx hb dX0_markChainNeeded_23 (by decide) ?_
            exact ih (some b_22) (va_up N k true) (by have := (hck _ rfl).1; omega) (fun q hq => by cases hq; obtain ⟨h1, h2⟩ := hck _ rfl; obtain ⟨h3, h4⟩ := hbs _ _ h2 hob_22; exact ⟨by omega, h3⟩) (by have h9 := k_nd_step hz; rw [hob_22] at h9; exact h9) (k_nd_h1 h1 (by rw [← hob_22]; exact hdk)) (k_nd_h2 h2) (by rw [← hob_22]; exact fun q hq => hth _ _ (hcs _ rfl) hq) _ _ hW hS _ (lv_sub hl [1, 0] rfl)
  exact hloop_2 (k0 + 2) (some k0) (o_nd t) (by omega) (fun q hq => by cases hq; exact ⟨by omega, hk⟩) (fun j => rfl) (fun j h _ _ _ => h) (fun j h => h) (fun q hq => by cases hq; exact hk0) _ _ hW hS _ (lv_sub hl [1, 0] rfl)
end
section
abbrev rm_X2_isRestedAround : Room := { frames := 1, cells := 0, slots := 0, locals := 21 }
set_option maxRecDepth 100000 in
set_option maxHeartbeats 4000000 in
theorem c_X2_isRestedAround_0 (l : Launch) (hlt : l.stackTraces = false) (g : k_g) (ad : k_AD) (t : k_T) (hp : ∀ i, i < 365 → r_p t i < 5) : Met l yX2_isRestedAround wsX2_isRestedAround rm_X2_isRestedAround (va_Pc [.ref (ad 7 0), .int (nI 0)] (k_I g (k_ct g ad t) ad)) (va_Qi (fun r u => r = kb (k_rest (r_p t) 0) ∧ u = t) (fun u U => k_H g ad u U.heap) (k_A g)) 0 0 (k_A g) := by
  refine k_met (cc := cX2_isRestedAround) (maxL := 3) (ret := (some .boolean)) (by decide) rfl (Nat.le_of_ble_eq_true rfl) (fun p e s m args below meth c Q ls hQ hx hb hr hml hts hown hlk hin hK hZ hN hW hS hl => ?_)
  have hown : s.vm.findClass RX2 = some m.cls := hown
  have hW : k_H g ad t s.heap := hW
  have hl : lv_has ls 3 [(0, .ref (ad 7 0)), (1, .int (nI 0))] := hl
  refine lv_aload_n hx hb dX2_isRestedAround_0 rfl (lv_at hl 0 rfl) ?_
  refine lv_iload_n hx hb dX2_isRestedAround_1 rfl (lv_at hl 1 rfl) ?_
  refine k_ci (va_runV (As := [.int (nI 0)]) (rest := []) ⟨hx, hb, hml, hown, hts⟩ (c_X2_personOn l hlt g ad t 0 (by omega)) (cwV 1 hts gX2_isRestedAround_X2_personOn rfl rfl rfl (by decide +kernel) ⟨(Nat.le_of_ble_eq_true rfl), (Nat.le_of_ble_eq_true rfl)⟩) ⟨k_blind, k_recv hK hW (kc_7 g ad t) rfl, fun U hU hw => ⟨rfl, k_I.of hK hZ hN hS hW hU hw⟩⟩ rfl rfl hl.1 rfl (lv_room (Nat.le_of_ble_eq_true rfl)) dX2_isRestedAround_2 ⟨(Nat.le_of_ble_eq_true rfl), (Nat.le_of_ble_eq_true rfl)⟩) hS (fun r u H locs hpo hW hS => ?_)
  obtain ⟨hr9, hu9⟩ := hpo; replace hu9 := hu9.symm; subst hu9; replace hr9 := hr9.symm; subst hr9
  refine lv_istore_n (lv' := [(2, .int (nI (r_p t 0))), (0, .ref (ad 7 0)), (1, .int (nI 0))]) hx hb dX2_isRestedAround_5 rfl hl (by decide) rfl (fun ls hl => ?_)
  refine lv_iload_n hx hb dX2_isRestedAround_6 rfl (lv_at hl 0 rfl) ?_
  refine lv_aload_n hx hb dX2_isRestedAround_7 rfl (lv_at hl 1 rfl) ?_
  refine lv_iload_n hx hb dX2_isRestedAround_8 rfl (lv_at hl 2 rfl) ?_
  refine lv_iconst (v := nI 1) hx hb dX2_isRestedAround_9 (by decide) ?_
  refine lv_isub hx hb dX2_isRestedAround_10 ?_
  refine k_toi (k_m1 _) ?_
  refine k_ci (va_runV (As := [.int (nI 0 + (-1))]) (rest := [.int (nI (r_p t 0))]) ⟨hx, hb, hml, hown, hts⟩ (c_X2_personOn_lo l hlt g ad t (nI 0 + (-1)) k_n0) (cwV 1 hts gX2_isRestedAround_X2_personOn rfl rfl rfl (by decide +kernel) ⟨(Nat.le_of_ble_eq_true rfl), (Nat.le_of_ble_eq_true rfl)⟩) ⟨k_blind, k_recv hK hW (kc_7 g ad t) rfl, fun U hU hw => ⟨rfl, k_I.of hK hZ hN hS hW hU hw⟩⟩ rfl rfl hl.1 rfl (lv_room (Nat.le_of_ble_eq_true rfl)) dX2_isRestedAround_11 ⟨(Nat.le_of_ble_eq_true rfl), (Nat.le_of_ble_eq_true rfl)⟩) hS (fun r u H locs hpo hW hS => ?_)
  obtain ⟨hr9, hu9⟩ := hpo; replace hu9 := hu9.symm; subst hu9; replace hr9 := hr9.symm; subst hr9
  refine lv_icmp_eq (tgt := 32) hx hb dX2_isRestedAround_14 (by decide) (fun h_14 => absurd h_14 (k_nm1 (by have := hp 0 (by decide); omega))) (fun h_14 => ?_)
  refine lv_iload_n hx hb dX2_isRestedAround_17 rfl (lv_at hl 0 rfl) ?_
  refine lv_aload_n hx hb dX2_isRestedAround_18 rfl (lv_at hl 1 rfl) ?_
  refine lv_iload_n hx hb dX2_isRestedAround_19 rfl (lv_at hl 2 rfl) ?_
  refine lv_iconst (v := nI 1) hx hb dX2_isRestedAround_20 (by decide) ?_
  refine k_iadd hx hb dX2_isRestedAround_21 ?_
  refine k_ci (va_runV (As := [.int (nI (0 + 1))]) (rest := [.int (nI (r_p t 0))]) ⟨hx, hb, hml, hown, hts⟩ (c_X2_personOn l hlt g ad t (0 + 1) (by omega)) (cwV 1 hts gX2_isRestedAround_X2_personOn rfl rfl rfl (by decide +kernel) ⟨(Nat.le_of_ble_eq_true rfl), (Nat.le_of_ble_eq_true rfl)⟩) ⟨k_blind, k_recv hK hW (kc_7 g ad t) rfl, fun U hU hw => ⟨rfl, k_I.of hK hZ hN hS hW hU hw⟩⟩ rfl rfl hl.1 rfl (lv_room (Nat.le_of_ble_eq_true rfl)) dX2_isRestedAround_22 ⟨(Nat.le_of_ble_eq_true rfl), (Nat.le_of_ble_eq_true rfl)⟩) hS (fun r u H locs hpo hW hS => ?_)
  obtain ⟨hr9, hu9⟩ := hpo; replace hu9 := hu9.symm; subst hu9; replace hr9 := hr9.symm; subst hr9
  refine k_icmp_eq (tgt := 32) hx hb (a := r_p t 0) (b := r_p t (0 + 1)) (by have := hp 0 (by decide); omega) (by have := hp (0 + 1) (by decide); omega) dX2_isRestedAround_25 (by decide) (fun h_25 => ?_) (fun h_25 => ?_)
  · refine lv_iconst (v := nI 0) hx hb dX2_isRestedAround_32 (by decide) ?_
    exact k_rz hQ hx hb hr rfl hlk hS hW ⟨by rw [k_rest_0, decide_eq_false (fun q => q h_25)]; rfl, rfl⟩ (Nat.le_of_ble_eq_true rfl) (Nat.le_of_ble_eq_true rfl) dX2_isRestedAround_33
  · refine lv_iconst (v := nI 1) hx hb dX2_isRestedAround_28 (by decide) ?_
    refine lv_goto (tgt := 33) hx hb dX2_isRestedAround_29 (by decide) ?_
    exact k_rz hQ hx hb hr rfl hlk hS hW ⟨by rw [k_rest_0, decide_eq_true h_25]; rfl, rfl⟩ (Nat.le_of_ble_eq_true rfl) (Nat.le_of_ble_eq_true rfl) dX2_isRestedAround_33
set_option maxRecDepth 100000 in
set_option maxHeartbeats 4000000 in
theorem c_X2_isRestedAround_m (l : Launch) (hlt : l.stackTraces = false) (g : k_g) (ad : k_AD) (t : k_T) (e0 : Nat) (he : e0 + 1 < 364) (hp : ∀ i, i < 365 → r_p t i < 5) : Met l yX2_isRestedAround wsX2_isRestedAround rm_X2_isRestedAround (va_Pc [.ref (ad 7 0), .int (nI (e0 + 1))] (k_I g (k_ct g ad t) ad)) (va_Qi (fun r u => r = kb (k_rest (r_p t) (e0 + 1)) ∧ u = t) (fun u U => k_H g ad u U.heap) (k_A g)) 0 0 (k_A g) := by
  refine k_met (cc := cX2_isRestedAround) (maxL := 3) (ret := (some .boolean)) (by decide) rfl (Nat.le_of_ble_eq_true rfl) (fun p e s m args below meth c Q ls hQ hx hb hr hml hts hown hlk hin hK hZ hN hW hS hl => ?_)
  have hown : s.vm.findClass RX2 = some m.cls := hown
  have hW : k_H g ad t s.heap := hW
  have hl : lv_has ls 3 [(0, .ref (ad 7 0)), (1, .int (nI (e0 + 1)))] := hl
  refine lv_aload_n hx hb dX2_isRestedAround_0 rfl (lv_at hl 0 rfl) ?_
  refine lv_iload_n hx hb dX2_isRestedAround_1 rfl (lv_at hl 1 rfl) ?_
  refine k_ci (va_runV (As := [.int (nI (e0 + 1))]) (rest := []) ⟨hx, hb, hml, hown, hts⟩ (c_X2_personOn l hlt g ad t (e0 + 1) (by omega)) (cwV 1 hts gX2_isRestedAround_X2_personOn rfl rfl rfl (by decide +kernel) ⟨(Nat.le_of_ble_eq_true rfl), (Nat.le_of_ble_eq_true rfl)⟩) ⟨k_blind, k_recv hK hW (kc_7 g ad t) rfl, fun U hU hw => ⟨rfl, k_I.of hK hZ hN hS hW hU hw⟩⟩ rfl rfl hl.1 rfl (lv_room (Nat.le_of_ble_eq_true rfl)) dX2_isRestedAround_2 ⟨(Nat.le_of_ble_eq_true rfl), (Nat.le_of_ble_eq_true rfl)⟩) hS (fun r u H locs hpo hW hS => ?_)
  obtain ⟨hr9, hu9⟩ := hpo; replace hu9 := hu9.symm; subst hu9; replace hr9 := hr9.symm; subst hr9
  refine lv_istore_n (lv' := [(2, .int (nI (r_p t (e0 + 1)))), (0, .ref (ad 7 0)), (1, .int (nI (e0 + 1)))]) hx hb dX2_isRestedAround_5 rfl hl (by decide) rfl (fun ls hl => ?_)
  refine lv_iload_n hx hb dX2_isRestedAround_6 rfl (lv_at hl 0 rfl) ?_
  refine lv_aload_n hx hb dX2_isRestedAround_7 rfl (lv_at hl 1 rfl) ?_
  refine lv_iload_n hx hb dX2_isRestedAround_8 rfl (lv_at hl 2 rfl) ?_
  refine lv_iconst (v := nI 1) hx hb dX2_isRestedAround_9 (by decide) ?_
  refine k_isub hx hb (by omega) dX2_isRestedAround_10 ?_
  refine k_ci (va_runV (As := [.int (nI ((e0 + 1) - 1))]) (rest := [.int (nI (r_p t (e0 + 1)))]) ⟨hx, hb, hml, hown, hts⟩ (c_X2_personOn l hlt g ad t ((e0 + 1) - 1) (by omega)) (cwV 1 hts gX2_isRestedAround_X2_personOn rfl rfl rfl (by decide +kernel) ⟨(Nat.le_of_ble_eq_true rfl), (Nat.le_of_ble_eq_true rfl)⟩) ⟨k_blind, k_recv hK hW (kc_7 g ad t) rfl, fun U hU hw => ⟨rfl, k_I.of hK hZ hN hS hW hU hw⟩⟩ rfl rfl hl.1 rfl (lv_room (Nat.le_of_ble_eq_true rfl)) dX2_isRestedAround_11 ⟨(Nat.le_of_ble_eq_true rfl), (Nat.le_of_ble_eq_true rfl)⟩) hS (fun r u H locs hpo hW hS => ?_)
  obtain ⟨hr9, hu9⟩ := hpo; replace hu9 := hu9.symm; subst hu9; replace hr9 := hr9.symm; subst hr9
  refine k_icmp_eq (tgt := 32) hx hb (a := r_p t (e0 + 1)) (b := r_p t ((e0 + 1) - 1)) (by have := hp (e0 + 1) (by omega); omega) (by have := hp (e0 + 1 - 1) (by omega); omega) dX2_isRestedAround_14 (by decide) (fun h_14 => ?_) (fun h_14 => ?_)
  · refine lv_iconst (v := nI 0) hx hb dX2_isRestedAround_32 (by decide) ?_
    exact k_rz hQ hx hb hr rfl hlk hS hW ⟨by rw [k_rest_m _ he, decide_eq_false (show ¬ (r_p t (e0 + 1) ≠ r_p t (e0 + 1 - 1)) from fun q => q h_14)]; rfl, rfl⟩ (Nat.le_of_ble_eq_true rfl) (Nat.le_of_ble_eq_true rfl) dX2_isRestedAround_33
  · refine lv_iload_n hx hb dX2_isRestedAround_17 rfl (lv_at hl 0 rfl) ?_
    refine lv_aload_n hx hb dX2_isRestedAround_18 rfl (lv_at hl 1 rfl) ?_
    refine lv_iload_n hx hb dX2_isRestedAround_19 rfl (lv_at hl 2 rfl) ?_
    refine lv_iconst (v := nI 1) hx hb dX2_isRestedAround_20 (by decide) ?_
    refine k_iadd hx hb dX2_isRestedAround_21 ?_
    refine k_ci (va_runV (As := [.int (nI ((e0 + 1) + 1))]) (rest := [.int (nI (r_p t (e0 + 1)))]) ⟨hx, hb, hml, hown, hts⟩ (c_X2_personOn l hlt g ad t ((e0 + 1) + 1) (by omega)) (cwV 1 hts gX2_isRestedAround_X2_personOn rfl rfl rfl (by decide +kernel) ⟨(Nat.le_of_ble_eq_true rfl), (Nat.le_of_ble_eq_true rfl)⟩) ⟨k_blind, k_recv hK hW (kc_7 g ad t) rfl, fun U hU hw => ⟨rfl, k_I.of hK hZ hN hS hW hU hw⟩⟩ rfl rfl hl.1 rfl (lv_room (Nat.le_of_ble_eq_true rfl)) dX2_isRestedAround_22 ⟨(Nat.le_of_ble_eq_true rfl), (Nat.le_of_ble_eq_true rfl)⟩) hS (fun r u H locs hpo hW hS => ?_)
    obtain ⟨hr9, hu9⟩ := hpo; replace hu9 := hu9.symm; subst hu9; replace hr9 := hr9.symm; subst hr9
    refine k_icmp_eq (tgt := 32) hx hb (a := r_p t (e0 + 1)) (b := r_p t ((e0 + 1) + 1)) (by have := hp (e0 + 1) (by omega); omega) (by have := hp (e0 + 1 + 1) (by omega); omega) dX2_isRestedAround_25 (by decide) (fun h_25 => ?_) (fun h_25 => ?_)
    · refine lv_iconst (v := nI 0) hx hb dX2_isRestedAround_32 (by decide) ?_
      exact k_rz hQ hx hb hr rfl hlk hS hW ⟨by rw [k_rest_m _ he, decide_eq_false (show ¬ (r_p t (e0 + 1) ≠ r_p t (e0 + 1 + 1)) from fun q => q h_25), Bool.and_false]; rfl, rfl⟩ (Nat.le_of_ble_eq_true rfl) (Nat.le_of_ble_eq_true rfl) dX2_isRestedAround_33
    · refine lv_iconst (v := nI 1) hx hb dX2_isRestedAround_28 (by decide) ?_
      refine lv_goto (tgt := 33) hx hb dX2_isRestedAround_29 (by decide) ?_
      exact k_rz hQ hx hb hr rfl hlk hS hW ⟨by rw [k_rest_m _ he, decide_eq_true h_14, decide_eq_true h_25]; rfl, rfl⟩ (Nat.le_of_ble_eq_true rfl) (Nat.le_of_ble_eq_true rfl) dX2_isRestedAround_33
set_option maxRecDepth 100000 in
set_option maxHeartbeats 4000000 in
theorem c_X2_isRestedAround_h (l : Launch) (hlt : l.stackTraces = false) (g : k_g) (ad : k_AD) (t : k_T) (hp : ∀ i, i < 365 → r_p t i < 5) : Met l yX2_isRestedAround wsX2_isRestedAround rm_X2_isRestedAround (va_Pc [.ref (ad 7 0), .int (nI 364)] (k_I g (k_ct g ad t) ad)) (va_Qi (fun r u => r = kb (k_rest (r_p t) 364) ∧ u = t) (fun u U => k_H g ad u U.heap) (k_A g)) 0 0 (k_A g) := by
  refine k_met (cc := cX2_isRestedAround) (maxL := 3) (ret := (some .boolean)) (by decide) rfl (Nat.le_of_ble_eq_true rfl) (fun p e s m args below meth c Q ls hQ hx hb hr hml hts hown hlk hin hK hZ hN hW hS hl => ?_)
  have hown : s.vm.findClass RX2 = some m.cls := hown
  have hW : k_H g ad t s.heap := hW
  have hl : lv_has ls 3 [(0, .ref (ad 7 0)), (1, .int (nI 364))] := hl
  refine lv_aload_n hx hb dX2_isRestedAround_0 rfl (lv_at hl 0 rfl) ?_
  refine lv_iload_n hx hb dX2_isRestedAround_1 rfl (lv_at hl 1 rfl) ?_
  refine k_ci (va_runV (As := [.int (nI 364)]) (rest := []) ⟨hx, hb, hml, hown, hts⟩ (c_X2_personOn l hlt g ad t 364 (by omega)) (cwV 1 hts gX2_isRestedAround_X2_personOn rfl rfl rfl (by decide +kernel) ⟨(Nat.le_of_ble_eq_true rfl), (Nat.le_of_ble_eq_true rfl)⟩) ⟨k_blind, k_recv hK hW (kc_7 g ad t) rfl, fun U hU hw => ⟨rfl, k_I.of hK hZ hN hS hW hU hw⟩⟩ rfl rfl hl.1 rfl (lv_room (Nat.le_of_ble_eq_true rfl)) dX2_isRestedAround_2 ⟨(Nat.le_of_ble_eq_true rfl), (Nat.le_of_ble_eq_true rfl)⟩) hS (fun r u H locs hpo hW hS => ?_)
  obtain ⟨hr9, hu9⟩ := hpo; replace hu9 := hu9.symm; subst hu9; replace hr9 := hr9.symm; subst hr9
  refine lv_istore_n (lv' := [(2, .int (nI (r_p t 364))), (0, .ref (ad 7 0)), (1, .int (nI 364))]) hx hb dX2_isRestedAround_5 rfl hl (by decide) rfl (fun ls hl => ?_)
  refine lv_iload_n hx hb dX2_isRestedAround_6 rfl (lv_at hl 0 rfl) ?_
  refine lv_aload_n hx hb dX2_isRestedAround_7 rfl (lv_at hl 1 rfl) ?_
  refine lv_iload_n hx hb dX2_isRestedAround_8 rfl (lv_at hl 2 rfl) ?_
  refine lv_iconst (v := nI 1) hx hb dX2_isRestedAround_9 (by decide) ?_
  refine k_isub hx hb (by decide) dX2_isRestedAround_10 ?_
  refine k_ci (va_runV (As := [.int (nI (364 - 1))]) (rest := [.int (nI (r_p t 364))]) ⟨hx, hb, hml, hown, hts⟩ (c_X2_personOn l hlt g ad t (364 - 1) (by decide)) (cwV 1 hts gX2_isRestedAround_X2_personOn rfl rfl rfl (by decide +kernel) ⟨(Nat.le_of_ble_eq_true rfl), (Nat.le_of_ble_eq_true rfl)⟩) ⟨k_blind, k_recv hK hW (kc_7 g ad t) rfl, fun U hU hw => ⟨rfl, k_I.of hK hZ hN hS hW hU hw⟩⟩ rfl rfl hl.1 rfl (lv_room (Nat.le_of_ble_eq_true rfl)) dX2_isRestedAround_11 ⟨(Nat.le_of_ble_eq_true rfl), (Nat.le_of_ble_eq_true rfl)⟩) hS (fun r u H locs hpo hW hS => ?_)
  obtain ⟨hr9, hu9⟩ := hpo; replace hu9 := hu9.symm; subst hu9; replace hr9 := hr9.symm; subst hr9
  refine k_icmp_eq (tgt := 32) hx hb (a := r_p t 364) (b := r_p t (364 - 1)) (by have := hp 364 (by decide); omega) (by have := hp (364 - 1) (by decide); omega) dX2_isRestedAround_14 (by decide) (fun h_14 => ?_) (fun h_14 => ?_)
  · refine lv_iconst (v := nI 0) hx hb dX2_isRestedAround_32 (by decide) ?_
    exact k_rz hQ hx hb hr rfl hlk hS hW ⟨by rw [k_rest_h, decide_eq_false (fun q => q h_14)]; rfl, rfl⟩ (Nat.le_of_ble_eq_true rfl) (Nat.le_of_ble_eq_true rfl) dX2_isRestedAround_33
  · refine lv_iload_n hx hb dX2_isRestedAround_17 rfl (lv_at hl 0 rfl) ?_
    refine lv_aload_n hx hb dX2_isRestedAround_18 rfl (lv_at hl 1 rfl) ?_
    refine lv_iload_n hx hb dX2_isRestedAround_19 rfl (lv_at hl 2 rfl) ?_
    refine lv_iconst (v := nI 1) hx hb dX2_isRestedAround_20 (by decide) ?_
    refine k_iadd hx hb dX2_isRestedAround_21 ?_
    refine k_ci (va_runV (As := [.int (nI (364 + 1))]) (rest := [.int (nI (r_p t 364))]) ⟨hx, hb, hml, hown, hts⟩ (c_X2_personOn_hi l hlt g ad t (364 + 1) (by decide) (by decide)) (cwV 1 hts gX2_isRestedAround_X2_personOn rfl rfl rfl (by decide +kernel) ⟨(Nat.le_of_ble_eq_true rfl), (Nat.le_of_ble_eq_true rfl)⟩) ⟨k_blind, k_recv hK hW (kc_7 g ad t) rfl, fun U hU hw => ⟨rfl, k_I.of hK hZ hN hS hW hU hw⟩⟩ rfl rfl hl.1 rfl (lv_room (Nat.le_of_ble_eq_true rfl)) dX2_isRestedAround_22 ⟨(Nat.le_of_ble_eq_true rfl), (Nat.le_of_ble_eq_true rfl)⟩) hS (fun r u H locs hpo hW hS => ?_)
    obtain ⟨hr9, hu9⟩ := hpo; replace hu9 := hu9.symm; subst hu9; replace hr9 := hr9.symm; subst hr9
    refine lv_icmp_eq (tgt := 32) hx hb dX2_isRestedAround_25 (by decide) (fun h_25 => absurd h_25 (k_nm1 (by have := hp 364 (by decide); omega))) (fun h_25 => ?_)
    refine lv_iconst (v := nI 1) hx hb dX2_isRestedAround_28 (by decide) ?_
    refine lv_goto (tgt := 33) hx hb dX2_isRestedAround_29 (by decide) ?_
    exact k_rz hQ hx hb hr rfl hlk hS hW ⟨by rw [k_rest_h, decide_eq_true h_14]; rfl, rfl⟩ (Nat.le_of_ble_eq_true rfl) (Nat.le_of_ble_eq_true rfl) dX2_isRestedAround_33
set_option maxRecDepth 100000 in
set_option maxHeartbeats 4000000 in
theorem c_X2_isRestedAround (l : Launch) (hlt : l.stackTraces = false) (g : k_g) (ad : k_AD) (t : k_T) (j : Nat) (hj : j < 365) (hp : ∀ i, i < 365 → r_p t i < 5) : Met l yX2_isRestedAround wsX2_isRestedAround rm_X2_isRestedAround (va_Pc [.ref (ad 7 0), .int (nI j)] (k_I g (k_ct g ad t) ad)) (va_Qi (fun r u => r = kb (k_rest (r_p t) j) ∧ u = t) (fun u U => k_H g ad u U.heap) (k_A g)) 0 0 (k_A g) := by
  rcases Nat.eq_zero_or_pos j with h | h
  · subst h; exact c_X2_isRestedAround_0 l hlt g ad t hp
  · rcases Nat.lt_or_ge j 364 with h2 | h2
    · obtain ⟨e0, rfl⟩ : ∃ e0, j = e0 + 1 := ⟨j - 1, by omega⟩
      exact c_X2_isRestedAround_m l hlt g ad t e0 h2 hp
    · obtain rfl : j = 364 := by omega
      exact c_X2_isRestedAround_h l hlt g ad t hp
abbrev rm_X2_exchangeIfRested : Room := { frames := 2, cells := 0, slots := 0, locals := 43 }
set_option maxRecDepth 100000 in
set_option maxHeartbeats 4000000 in
theorem c_X2_exchangeIfRested_ok (l : Launch) (hlt : l.stackTraces = false) (g : k_g) (ad : k_AD) (t : k_T) (j : Nat) (k : Nat) (hj : j < 365) (hk : k < 365) (hp : ∀ i, i < 365 → r_p t i < 5) (h1 : k_rest (k_ex (r_p t) j k) j = true) (h2 : k_rest (k_ex (r_p t) j k) k = true) : Met l yX2_exchangeIfRested wsX2_exchangeIfRested rm_X2_exchangeIfRested (va_Pc [.ref (ad 7 0), .int (nI j), .int (nI k)] (k_I g (k_ct g ad t) ad)) (va_Qi (fun r u => r = nI 1 ∧ u = set_r_p t (k_ex (r_p t) j k)) (fun u U => k_H g ad u U.heap) (k_A g)) 0 0 (k_A g) := by
  refine k_met (cc := cX2_exchangeIfRested) (maxL := 3) (ret := (some .boolean)) (by decide) rfl (Nat.le_of_ble_eq_true rfl) (fun p e s m args below meth c Q ls hQ hx hb hr hml hts hown hlk hin hK hZ hN hW hS hl => ?_)
  have hown : s.vm.findClass RX2 = some m.cls := hown
  have hW : k_H g ad t s.heap := hW
  have hl : lv_has ls 3 [(0, .ref (ad 7 0)), (1, .int (nI j)), (2, .int (nI k))] := hl
  refine lv_aload_n hx hb dX2_exchangeIfRested_0 rfl (lv_at hl 0 rfl) ?_
  refine lv_iload_n hx hb dX2_exchangeIfRested_1 rfl (lv_at hl 1 rfl) ?_
  refine lv_iload_n hx hb dX2_exchangeIfRested_2 rfl (lv_at hl 2 rfl) ?_
  refine k_cv (va_runV (As := [.int (nI j), .int (nI k)]) (rest := []) ⟨hx, hb, hml, hown, hts⟩ (c_X2_exchange l hlt g ad t j k (by omega) (by omega)) (cwV 2 hts gX2_exchangeIfRested_X2_exchange rfl rfl rfl (by decide +kernel) ⟨(Nat.le_of_ble_eq_true rfl), (Nat.le_of_ble_eq_true rfl)⟩) ⟨k_blind, k_recv hK hW (kc_7 g ad t) rfl, fun U hU hw => ⟨rfl, k_I.of hK hZ hN hS hW hU hw⟩⟩ rfl rfl hl.1 rfl (lv_room (Nat.le_of_ble_eq_true rfl)) dX2_exchangeIfRested_3 ⟨(Nat.le_of_ble_eq_true rfl), (Nat.le_of_ble_eq_true rfl)⟩) hS (fun u H locs hpo hW hS => ?_)
  have hu9 := hpo.symm; subst hu9
  have hW : k_H g ad (set_r_p t (va_up (va_up (r_p t) j (r_p t k)) k (r_p t j))) H := hW
  refine lv_aload_n hx hb dX2_exchangeIfRested_6 rfl (lv_at hl 0 rfl) ?_
  refine lv_iload_n hx hb dX2_exchangeIfRested_7 rfl (lv_at hl 1 rfl) ?_
  refine k_ci (va_runV (As := [.int (nI j)]) (rest := []) ⟨hx, hb, hml, hown, hts⟩ (c_X2_isRestedAround l hlt g ad (set_r_p t (va_up (va_up (r_p t) j (r_p t k)) k (r_p t j))) j (by omega) (k_ex_lt hp hj hk)) (cwV 1 hts gX2_exchangeIfRested_X2_isRestedAround rfl rfl rfl (by decide +kernel) ⟨(Nat.le_of_ble_eq_true rfl), (Nat.le_of_ble_eq_true rfl)⟩) ⟨k_blind, k_recv hK hW (kc_7 g ad (set_r_p t (va_up (va_up (r_p t) j (r_p t k)) k (r_p t j)))) rfl, fun U hU hw => ⟨rfl, k_I.of hK hZ hN hS hW hU hw⟩⟩ rfl rfl hl.1 rfl (lv_room (Nat.le_of_ble_eq_true rfl)) dX2_exchangeIfRested_8 ⟨(Nat.le_of_ble_eq_true rfl), (Nat.le_of_ble_eq_true rfl)⟩) hS (fun r u H locs hpo hW hS => ?_)
  obtain ⟨hr9, hu9⟩ := hpo; replace hu9 := hu9.symm; subst hu9; replace hr9 := hr9.symm; subst hr9
  refine k_ifz_eq (tgt := 24) hx hb dX2_exchangeIfRested_11 (by decide) (fun h_11 => absurd h_11 (fun q => by have h9 := h1.symm.trans q; cases h9)) (fun h_11 => ?_)
  refine lv_aload_n hx hb dX2_exchangeIfRested_14 rfl (lv_at hl 0 rfl) ?_
  refine lv_iload_n hx hb dX2_exchangeIfRested_15 rfl (lv_at hl 2 rfl) ?_
  refine k_ci (va_runV (As := [.int (nI k)]) (rest := []) ⟨hx, hb, hml, hown, hts⟩ (c_X2_isRestedAround l hlt g ad (set_r_p t (va_up (va_up (r_p t) j (r_p t k)) k (r_p t j))) k (by omega) (k_ex_lt hp hj hk)) (cwV 1 hts gX2_exchangeIfRested_X2_isRestedAround rfl rfl rfl (by decide +kernel) ⟨(Nat.le_of_ble_eq_true rfl), (Nat.le_of_ble_eq_true rfl)⟩) ⟨k_blind, k_recv hK hW (kc_7 g ad (set_r_p t (va_up (va_up (r_p t) j (r_p t k)) k (r_p t j)))) rfl, fun U hU hw => ⟨rfl, k_I.of hK hZ hN hS hW hU hw⟩⟩ rfl rfl hl.1 rfl (lv_room (Nat.le_of_ble_eq_true rfl)) dX2_exchangeIfRested_16 ⟨(Nat.le_of_ble_eq_true rfl), (Nat.le_of_ble_eq_true rfl)⟩) hS (fun r u H locs hpo hW hS => ?_)
  obtain ⟨hr9, hu9⟩ := hpo; replace hu9 := hu9.symm; subst hu9; replace hr9 := hr9.symm; subst hr9
  refine k_ifz_eq (tgt := 24) hx hb dX2_exchangeIfRested_19 (by decide) (fun h_19 => absurd h_19 (fun q => by have h9 := h2.symm.trans q; cases h9)) (fun h_19 => ?_)
  refine lv_iconst (v := nI 1) hx hb dX2_exchangeIfRested_22 (by decide) ?_
  exact k_rz hQ hx hb hr rfl hlk hS hW ⟨rfl, rfl⟩ (Nat.le_of_ble_eq_true rfl) (Nat.le_of_ble_eq_true rfl) dX2_exchangeIfRested_23
set_option maxRecDepth 100000 in
set_option maxHeartbeats 4000000 in
theorem c_X2_exchangeIfRested_no (l : Launch) (hlt : l.stackTraces = false) (g : k_g) (ad : k_AD) (t : k_T) (j : Nat) (k : Nat) (hj : j < 365) (hk : k < 365) (hp : ∀ i, i < 365 → r_p t i < 5) (hno : (k_rest (k_ex (r_p t) j k) j && k_rest (k_ex (r_p t) j k) k) = false) : Met l yX2_exchangeIfRested wsX2_exchangeIfRested rm_X2_exchangeIfRested (va_Pc [.ref (ad 7 0), .int (nI j), .int (nI k)] (k_I g (k_ct g ad t) ad)) (va_Qi (fun r u => r = nI 0 ∧ u = t) (fun u U => k_H g ad u U.heap) (k_A g)) 0 0 (k_A g) := by
  refine k_met (cc := cX2_exchangeIfRested) (maxL := 3) (ret := (some .boolean)) (by decide) rfl (Nat.le_of_ble_eq_true rfl) (fun p e s m args below meth c Q ls hQ hx hb hr hml hts hown hlk hin hK hZ hN hW hS hl => ?_)
  have hown : s.vm.findClass RX2 = some m.cls := hown
  have hW : k_H g ad t s.heap := hW
  have hl : lv_has ls 3 [(0, .ref (ad 7 0)), (1, .int (nI j)), (2, .int (nI k))] := hl
  refine lv_aload_n hx hb dX2_exchangeIfRested_0 rfl (lv_at hl 0 rfl) ?_
  refine lv_iload_n hx hb dX2_exchangeIfRested_1 rfl (lv_at hl 1 rfl) ?_
  refine lv_iload_n hx hb dX2_exchangeIfRested_2 rfl (lv_at hl 2 rfl) ?_
  refine k_cv (va_runV (As := [.int (nI j), .int (nI k)]) (rest := []) ⟨hx, hb, hml, hown, hts⟩ (c_X2_exchange l hlt g ad t j k (by omega) (by omega)) (cwV 2 hts gX2_exchangeIfRested_X2_exchange rfl rfl rfl (by decide +kernel) ⟨(Nat.le_of_ble_eq_true rfl), (Nat.le_of_ble_eq_true rfl)⟩) ⟨k_blind, k_recv hK hW (kc_7 g ad t) rfl, fun U hU hw => ⟨rfl, k_I.of hK hZ hN hS hW hU hw⟩⟩ rfl rfl hl.1 rfl (lv_room (Nat.le_of_ble_eq_true rfl)) dX2_exchangeIfRested_3 ⟨(Nat.le_of_ble_eq_true rfl), (Nat.le_of_ble_eq_true rfl)⟩) hS (fun u H locs hpo hW hS => ?_)
  have hu9 := hpo.symm; subst hu9
  have hW : k_H g ad (set_r_p t (va_up (va_up (r_p t) j (r_p t k)) k (r_p t j))) H := hW
  refine lv_aload_n hx hb dX2_exchangeIfRested_6 rfl (lv_at hl 0 rfl) ?_
  refine lv_iload_n hx hb dX2_exchangeIfRested_7 rfl (lv_at hl 1 rfl) ?_
  refine k_ci (va_runV (As := [.int (nI j)]) (rest := []) ⟨hx, hb, hml, hown, hts⟩ (c_X2_isRestedAround l hlt g ad (set_r_p t (va_up (va_up (r_p t) j (r_p t k)) k (r_p t j))) j (by omega) (k_ex_lt hp hj hk)) (cwV 1 hts gX2_exchangeIfRested_X2_isRestedAround rfl rfl rfl (by decide +kernel) ⟨(Nat.le_of_ble_eq_true rfl), (Nat.le_of_ble_eq_true rfl)⟩) ⟨k_blind, k_recv hK hW (kc_7 g ad (set_r_p t (va_up (va_up (r_p t) j (r_p t k)) k (r_p t j)))) rfl, fun U hU hw => ⟨rfl, k_I.of hK hZ hN hS hW hU hw⟩⟩ rfl rfl hl.1 rfl (lv_room (Nat.le_of_ble_eq_true rfl)) dX2_exchangeIfRested_8 ⟨(Nat.le_of_ble_eq_true rfl), (Nat.le_of_ble_eq_true rfl)⟩) hS (fun r u H locs hpo hW hS => ?_)
  obtain ⟨hr9, hu9⟩ := hpo; replace hu9 := hu9.symm; subst hu9; replace hr9 := hr9.symm; subst hr9
  refine k_ifz_eq (tgt := 24) hx hb dX2_exchangeIfRested_11 (by decide) (fun h_11 => ?_) (fun h_11 => ?_)
  · refine lv_aload_n hx hb dX2_exchangeIfRested_24 rfl (lv_at hl 0 rfl) ?_
    refine lv_iload_n hx hb dX2_exchangeIfRested_25 rfl (lv_at hl 1 rfl) ?_
    refine lv_iload_n hx hb dX2_exchangeIfRested_26 rfl (lv_at hl 2 rfl) ?_
    refine k_cv (va_runV (As := [.int (nI j), .int (nI k)]) (rest := []) ⟨hx, hb, hml, hown, hts⟩ (c_X2_exchange l hlt g ad (set_r_p t (va_up (va_up (r_p t) j (r_p t k)) k (r_p t j))) j k (by omega) (by omega)) (cwV 2 hts gX2_exchangeIfRested_X2_exchange rfl rfl rfl (by decide +kernel) ⟨(Nat.le_of_ble_eq_true rfl), (Nat.le_of_ble_eq_true rfl)⟩) ⟨k_blind, k_recv hK hW (kc_7 g ad (set_r_p t (va_up (va_up (r_p t) j (r_p t k)) k (r_p t j)))) rfl, fun U hU hw => ⟨rfl, k_I.of hK hZ hN hS hW hU hw⟩⟩ rfl rfl hl.1 rfl (lv_room (Nat.le_of_ble_eq_true rfl)) dX2_exchangeIfRested_27 ⟨(Nat.le_of_ble_eq_true rfl), (Nat.le_of_ble_eq_true rfl)⟩) hS (fun u H locs hpo hW hS => ?_)
    have hu9 := hpo.symm; subst hu9
    have hW : k_H g ad (set_r_p t (va_up (va_up (va_up (va_up (r_p t) j (r_p t k)) k (r_p t j)) j ((va_up (va_up (r_p t) j (r_p t k)) k (r_p t j)) k)) k ((va_up (va_up (r_p t) j (r_p t k)) k (r_p t j)) j))) H := hW
    refine lv_iconst (v := nI 0) hx hb dX2_exchangeIfRested_30 (by decide) ?_
    exact k_rz hQ hx hb hr rfl hlk hS hW ⟨rfl, by rw [k_ex_back]⟩ (Nat.le_of_ble_eq_true rfl) (Nat.le_of_ble_eq_true rfl) dX2_exchangeIfRested_31
  · refine lv_aload_n hx hb dX2_exchangeIfRested_14 rfl (lv_at hl 0 rfl) ?_
    refine lv_iload_n hx hb dX2_exchangeIfRested_15 rfl (lv_at hl 2 rfl) ?_
    refine k_ci (va_runV (As := [.int (nI k)]) (rest := []) ⟨hx, hb, hml, hown, hts⟩ (c_X2_isRestedAround l hlt g ad (set_r_p t (va_up (va_up (r_p t) j (r_p t k)) k (r_p t j))) k (by omega) (k_ex_lt hp hj hk)) (cwV 1 hts gX2_exchangeIfRested_X2_isRestedAround rfl rfl rfl (by decide +kernel) ⟨(Nat.le_of_ble_eq_true rfl), (Nat.le_of_ble_eq_true rfl)⟩) ⟨k_blind, k_recv hK hW (kc_7 g ad (set_r_p t (va_up (va_up (r_p t) j (r_p t k)) k (r_p t j)))) rfl, fun U hU hw => ⟨rfl, k_I.of hK hZ hN hS hW hU hw⟩⟩ rfl rfl hl.1 rfl (lv_room (Nat.le_of_ble_eq_true rfl)) dX2_exchangeIfRested_16 ⟨(Nat.le_of_ble_eq_true rfl), (Nat.le_of_ble_eq_true rfl)⟩) hS (fun r u H locs hpo hW hS => ?_)
    obtain ⟨hr9, hu9⟩ := hpo; replace hu9 := hu9.symm; subst hu9; replace hr9 := hr9.symm; subst hr9
    refine k_ifz_eq (tgt := 24) hx hb dX2_exchangeIfRested_19 (by decide) (fun h_19 => ?_) (fun h_19 => absurd h_19 (fun q => absurd (hno.symm.trans (show (k_rest (k_ex (r_p t) j k) j && k_rest (k_ex (r_p t) j k) k) = true from by rw [Bool.and_eq_true]; exact ⟨h_11, q⟩)) (by decide)))
    refine lv_aload_n hx hb dX2_exchangeIfRested_24 rfl (lv_at hl 0 rfl) ?_
    refine lv_iload_n hx hb dX2_exchangeIfRested_25 rfl (lv_at hl 1 rfl) ?_
    refine lv_iload_n hx hb dX2_exchangeIfRested_26 rfl (lv_at hl 2 rfl) ?_
    refine k_cv (va_runV (As := [.int (nI j), .int (nI k)]) (rest := []) ⟨hx, hb, hml, hown, hts⟩ (c_X2_exchange l hlt g ad (set_r_p t (va_up (va_up (r_p t) j (r_p t k)) k (r_p t j))) j k (by omega) (by omega)) (cwV 2 hts gX2_exchangeIfRested_X2_exchange rfl rfl rfl (by decide +kernel) ⟨(Nat.le_of_ble_eq_true rfl), (Nat.le_of_ble_eq_true rfl)⟩) ⟨k_blind, k_recv hK hW (kc_7 g ad (set_r_p t (va_up (va_up (r_p t) j (r_p t k)) k (r_p t j)))) rfl, fun U hU hw => ⟨rfl, k_I.of hK hZ hN hS hW hU hw⟩⟩ rfl rfl hl.1 rfl (lv_room (Nat.le_of_ble_eq_true rfl)) dX2_exchangeIfRested_27 ⟨(Nat.le_of_ble_eq_true rfl), (Nat.le_of_ble_eq_true rfl)⟩) hS (fun u H locs hpo hW hS => ?_)
    have hu9 := hpo.symm; subst hu9
    have hW : k_H g ad (set_r_p t (va_up (va_up (va_up (va_up (r_p t) j (r_p t k)) k (r_p t j)) j ((va_up (va_up (r_p t) j (r_p t k)) k (r_p t j)) k)) k ((va_up (va_up (r_p t) j (r_p t k)) k (r_p t j)) j))) H := hW
    refine lv_iconst (v := nI 0) hx hb dX2_exchangeIfRested_30 (by decide) ?_
    exact k_rz hQ hx hb hr rfl hlk hS hW ⟨rfl, by rw [k_ex_back]⟩ (Nat.le_of_ble_eq_true rfl) (Nat.le_of_ble_eq_true rfl) dX2_exchangeIfRested_31
abbrev rm_X2_firstToAnswer : Room := { frames := 1, cells := 0, slots := 0, locals := 21 }
set_option maxRecDepth 100000 in
set_option maxHeartbeats 4000000 in
theorem c_X2_firstToAnswer (l : Launch) (hlt : l.stackTraces = false) (g : k_g) (ad : k_AD) (t : k_T) (d : Nat) (an : Nat) (hd : d ≤ 360) (han : an < 32) (hp : ∀ i, i < 365 → r_p t i < 5) : Met l yX2_firstToAnswer wsX2_firstToAnswer rm_X2_firstToAnswer (va_Pc [.ref (ad 7 0), .int (nI d), .int (nI an)] (k_I g (k_ct g ad t) ad)) (va_Qi (fun r u => r = k_al (r_p t) an 4 d ∧ u = t) (fun u U => k_H g ad u U.heap) (k_A g)) 0 0 (k_A g) := by
  refine k_met (cc := cX2_firstToAnswer) (maxL := 5) (ret := (some .int)) (by decide) rfl (Nat.le_of_ble_eq_true rfl) (fun p e s m args below meth c Q ls hQ hx hb hr hml hts hown hlk hin hK hZ hN hW hS hl => ?_)
  have hown : s.vm.findClass RX2 = some m.cls := hown
  have hW : k_H g ad t s.heap := hW
  have hl : lv_has ls 5 [(0, .ref (ad 7 0)), (1, .int (nI d)), (2, .int (nI an))] := hl
  refine lv_iconst (v := nI 0) hx hb dX2_firstToAnswer_0 (by decide) ?_
  refine lv_istore_n (lv' := [(3, .int (nI 0)), (0, .ref (ad 7 0)), (1, .int (nI d)), (2, .int (nI an))]) hx hb dX2_firstToAnswer_1 rfl hl (by decide) rfl (fun ls hl => ?_)
  have hloop_2 : ∀ (n : Nat) (i : Nat), (4 < i + n) → (i ≤ 4) → (k_al (r_p t) an 4 d = k_al (r_p t) an (4 - i) (d + i)) → ∀ (H : Heap) (locs : List Loc), k_H g ad t H → va_S (k_A g) s.heap H locs → ∀ (ls : Array Slot), lv_has ls 5 [(0, .ref (ad 7 0)), (1, .int (nI d)), (2, .int (nI an)), (3, .int (nI i))] → W p l e rm_X2_firstToAnswer s m args below meth c H locs 0 0 Q (F0 m 2 ls []) := by
    intro n
    induction n with
    | zero =>
      intro i hfu hi hz
      exact absurd hfu (by omega)
    | succ n ih =>
      intro i hfu hi hz H locs hW hS ls hl
      refine lv_iload_n hx hb dX2_firstToAnswer_2 rfl (lv_at hl 3 rfl) ?_
      refine lv_iconst (v := nI 3) hx hb dX2_firstToAnswer_3 (by decide) ?_
      refine k_icmp_gt (tgt := 45) hx hb (a := i) (b := 3) (by omega) (by decide) dX2_firstToAnswer_4 (by decide) (fun h_4 => ?_) (fun h_4 => ?_)
      · refine lv_iconst (v := (-1)) hx hb dX2_firstToAnswer_45 (by decide) ?_
        exact k_ri hQ hx hb hr hlk hS hW ⟨by rw [hz, show 4 - i = 0 by omega]; rfl, rfl⟩ (Nat.le_of_ble_eq_true rfl) (Nat.le_of_ble_eq_true rfl) dX2_firstToAnswer_46
      · refine lv_aload_n hx hb dX2_firstToAnswer_7 rfl (lv_at hl 0 rfl) ?_
        refine lv_iload_n hx hb dX2_firstToAnswer_8 rfl (lv_at hl 1 rfl) ?_
        refine lv_iload_n hx hb dX2_firstToAnswer_9 rfl (lv_at hl 3 rfl) ?_
        refine k_iadd hx hb dX2_firstToAnswer_10 ?_
        refine k_ci (va_runV (As := [.int (nI (d + i))]) (rest := []) ⟨hx, hb, hml, hown, hts⟩ (c_X2_personOn l hlt g ad t (d + i) (by omega)) (cwV 1 hts gX2_firstToAnswer_X2_personOn rfl rfl rfl (by decide +kernel) ⟨(Nat.le_of_ble_eq_true rfl), (Nat.le_of_ble_eq_true rfl)⟩) ⟨k_blind, k_recv hK hW (kc_7 g ad t) rfl, fun U hU hw => ⟨rfl, k_I.of hK hZ hN hS hW hU hw⟩⟩ rfl rfl hl.1 rfl (lv_room (Nat.le_of_ble_eq_true rfl)) dX2_firstToAnswer_11 ⟨(Nat.le_of_ble_eq_true rfl), (Nat.le_of_ble_eq_true rfl)⟩) hS (fun r u H locs hpo hW hS => ?_)
        obtain ⟨hr9, hu9⟩ := hpo; replace hu9 := hu9.symm; subst hu9; replace hr9 := hr9.symm; subst hr9
        refine lv_istore (lv' := [(4, .int (nI (r_p t (d + i)))), (0, .ref (ad 7 0)), (1, .int (nI d)), (2, .int (nI an)), (3, .int (nI i))]) hx hb dX2_firstToAnswer_14 hl (by decide) rfl (fun ls hl => ?_)
        refine lv_iload hx hb dX2_firstToAnswer_16 (lv_at hl 0 rfl) ?_
        refine k_if_lt (tgt := 39) hx hb (by have := hp (d + i) (by omega); omega) dX2_firstToAnswer_18 (by decide) ?_
        refine lv_iload hx hb dX2_firstToAnswer_21 (lv_at hl 0 rfl) ?_
        refine lv_iconst (v := nI 5) hx hb dX2_firstToAnswer_23 (by decide) ?_
        refine k_icmp_ge (tgt := 39) hx hb (a := r_p t (d + i)) (b := 5) (by have := hp (d + i) (by omega); omega) (by decide) dX2_firstToAnswer_24 (by decide) (fun h_24 => absurd h_24 (by have := hp (d + i) (by omega); omega)) (fun h_24 => ?_)
        refine lv_iload_n hx hb dX2_firstToAnswer_27 rfl (lv_at hl 3 rfl) ?_
        refine lv_iconst (v := nI 1) hx hb dX2_firstToAnswer_28 (by decide) ?_
        refine lv_iload hx hb dX2_firstToAnswer_29 (lv_at hl 0 rfl) ?_
        refine lv_ishl hx hb dX2_firstToAnswer_31 ?_
        refine lv_iand hx hb dX2_firstToAnswer_32 ?_
        refine lv_if_eq (tgt := 39) hx hb dX2_firstToAnswer_33 (by decide) (fun h_33 => ?_) (fun h_33 => ?_)
        · refine lv_iinc (v := nI (i + 1)) (lv' := [(3, .int (nI (i + 1))), (4, .int (nI (r_p t (d + i)))), (0, .ref (ad 7 0)), (1, .int (nI d)), (2, .int (nI an))]) hx hb dX2_firstToAnswer_39 hl (k := 4) rfl (nI_add _ _) (by decide) rfl (fun ls hl => ?_)
          refine lv_goto (tgt := 2) hx hb dX2_firstToAnswer_42 (by decide) ?_
          exact ih (i + 1) (by omega) (by omega) (by rw [hz, show 4 - i = (4 - (i + 1)) + 1 by omega, k_al, if_neg (by rw [(k_and an han _ (hp (d + i) (by omega))).mp h_33]; decide)]; rfl) _ _ hW hS _ (lv_sub hl [2, 3, 4, 0] rfl)
        · refine lv_iload hx hb dX2_firstToAnswer_36 (lv_at hl 0 rfl) ?_
          exact k_ri hQ hx hb hr hlk hS hW ⟨by rw [hz, show 4 - i = (4 - (i + 1)) + 1 by omega, k_al, if_pos (by cases h9 : an.testBit (r_p t (d + i)) with | true => rfl | false => exact absurd ((k_and an han _ (hp (d + i) (by omega))).mpr h9) h_33)], rfl⟩ (Nat.le_of_ble_eq_true rfl) (Nat.le_of_ble_eq_true rfl) dX2_firstToAnswer_38
  exact hloop_2 5 0 (by omega) (by omega) rfl _ _ hW hS _ (lv_sub hl [1, 2, 3, 0] rfl)
abbrev rm_X3_find : Room := { frames := 0, cells := 0, slots := 0, locals := 0 }
set_option maxRecDepth 100000 in
set_option maxHeartbeats 4000000 in
theorem c_X3_find (l : Launch) (hlt : l.stackTraces = false) (g : k_g) (ad : k_AD) (t : k_T) (j : Nat) (hj : j < 60) (hs : s_th t j = true) : Met l yX3_find wsX3_find rm_X3_find (va_Pc [.ref (ad 5 0), .int (nI j)] (k_I g (k_ct g ad t) ad)) (va_Qq (fun r u => r = some (ad 25 j) ∧ u = t) (fun u U => k_H g ad u U.heap) (k_A g)) 0 0 (k_A g) := by
  refine k_met (cc := cX3_find) (maxL := 2) (ret := (some (.object "DrillVault$Copy"))) (by decide) rfl (Nat.le_of_ble_eq_true rfl) (fun p e s m args below meth c Q ls hQ hx hb hr hml hts hown hlk hin hK hZ hN hW hS hl => ?_)
  have hown : s.vm.findClass RX3 = some m.cls := hown
  have hW : k_H g ad t s.heap := hW
  have hl : lv_has ls 2 [(0, .ref (ad 5 0)), (1, .int (nI j))] := hl
  have hinX3 : ∀ w ∈ wsX30, w ∈ wsX3_find := by decide +kernel
  refine lv_iload_n hx hb dX3_find_0 rfl (lv_at hl 1 rfl) ?_
  refine k_if_lt (tgt := 22) hx hb (by omega) dX3_find_1 (by decide) ?_
  refine lv_iload_n hx hb dX3_find_4 rfl (lv_at hl 1 rfl) ?_
  refine lv_aload_n hx hb dX3_find_5 rfl (lv_at hl 0 rfl) ?_
  refine k_get (own := RX3) (C := RX3) (T := TX3) (N := 5) hx hb hts hinX3 hown hK hW (kc_5 g ad t) rfl 0 (by decide) (hts (.fieldLink RX3 11 "DrillVault$Shelf" "rows" "[LDrillVault$Copy;") (by decide +kernel)) rfl (v := .ref (ad 6 0)) rfl dX3_find_6 ?_
  refine k_alen hx hb hK hW 3 rfl (kc_6 g ad t) (v := nI 60) rfl dX3_find_9 ?_
  refine k_icmp_ge (tgt := 22) hx hb (a := j) (b := 60) (by omega) (by decide) dX3_find_10 (by decide) (fun h_10 => absurd h_10 (by omega)) (fun h_10 => ?_)
  refine lv_aload_n hx hb dX3_find_13 rfl (lv_at hl 0 rfl) ?_
  refine k_get (own := RX3) (C := RX3) (T := TX3) (N := 5) hx hb hts hinX3 hown hK hW (kc_5 g ad t) rfl 0 (by decide) (hts (.fieldLink RX3 11 "DrillVault$Shelf" "rows" "[LDrillVault$Copy;") (by decide +kernel)) rfl (v := .ref (ad 6 0)) rfl dX3_find_14 ?_
  refine lv_iload_n hx hb dX3_find_17 rfl (lv_at hl 1 rfl) ?_
  refine k_aald hx hb hK hW (kc_6 g ad t) j rfl (by omega) (by decide) dX3_find_18 ?_
  refine k_tov (y := .ref (ad 25 j)) (congrArg va_rf (if_pos hs)) ?_
  refine lv_goto (tgt := 23) hx hb dX3_find_19 (by decide) ?_
  refine k_tov (y := va_rf (some (ad 25 j))) rfl ?_
  exact k_rq hQ hx hb hr hlk hS hW ⟨rfl, rfl⟩ (Nat.le_of_ble_eq_true rfl) (Nat.le_of_ble_eq_true rfl) dX3_find_23
set_option maxRecDepth 100000 in
set_option maxHeartbeats 4000000 in
theorem c_X3_find_ab (l : Launch) (hlt : l.stackTraces = false) (g : k_g) (ad : k_AD) (t : k_T) (j : Nat) (hj : j < 60) (hs : s_th t j = false) : Met l yX3_find wsX3_find rm_X3_find (va_Pc [.ref (ad 5 0), .int (nI j)] (k_I g (k_ct g ad t) ad)) (va_Qq (fun r u => r = none ∧ u = t) (fun u U => k_H g ad u U.heap) (k_A g)) 0 0 (k_A g) := by
  refine k_met (cc := cX3_find) (maxL := 2) (ret := (some (.object "DrillVault$Copy"))) (by decide) rfl (Nat.le_of_ble_eq_true rfl) (fun p e s m args below meth c Q ls hQ hx hb hr hml hts hown hlk hin hK hZ hN hW hS hl => ?_)
  have hown : s.vm.findClass RX3 = some m.cls := hown
  have hW : k_H g ad t s.heap := hW
  have hl : lv_has ls 2 [(0, .ref (ad 5 0)), (1, .int (nI j))] := hl
  have hinX3 : ∀ w ∈ wsX30, w ∈ wsX3_find := by decide +kernel
  refine lv_iload_n hx hb dX3_find_0 rfl (lv_at hl 1 rfl) ?_
  refine k_if_lt (tgt := 22) hx hb (by omega) dX3_find_1 (by decide) ?_
  refine lv_iload_n hx hb dX3_find_4 rfl (lv_at hl 1 rfl) ?_
  refine lv_aload_n hx hb dX3_find_5 rfl (lv_at hl 0 rfl) ?_
  refine k_get (own := RX3) (C := RX3) (T := TX3) (N := 5) hx hb hts hinX3 hown hK hW (kc_5 g ad t) rfl 0 (by decide) (hts (.fieldLink RX3 11 "DrillVault$Shelf" "rows" "[LDrillVault$Copy;") (by decide +kernel)) rfl (v := .ref (ad 6 0)) rfl dX3_find_6 ?_
  refine k_alen hx hb hK hW 3 rfl (kc_6 g ad t) (v := nI 60) rfl dX3_find_9 ?_
  refine k_icmp_ge (tgt := 22) hx hb (a := j) (b := 60) (by omega) (by decide) dX3_find_10 (by decide) (fun h_10 => absurd h_10 (by omega)) (fun h_10 => ?_)
  refine lv_aload_n hx hb dX3_find_13 rfl (lv_at hl 0 rfl) ?_
  refine k_get (own := RX3) (C := RX3) (T := TX3) (N := 5) hx hb hts hinX3 hown hK hW (kc_5 g ad t) rfl 0 (by decide) (hts (.fieldLink RX3 11 "DrillVault$Shelf" "rows" "[LDrillVault$Copy;") (by decide +kernel)) rfl (v := .ref (ad 6 0)) rfl dX3_find_14 ?_
  refine lv_iload_n hx hb dX3_find_17 rfl (lv_at hl 1 rfl) ?_
  refine k_aald hx hb hK hW (kc_6 g ad t) j rfl (by omega) (by decide) dX3_find_18 ?_
  refine k_tov (y := .null) (congrArg va_rf (if_neg (fun q => absurd (hs.symm.trans q) (by decide)))) ?_
  refine lv_goto (tgt := 23) hx hb dX3_find_19 (by decide) ?_
  refine k_tov (y := va_rf none) rfl ?_
  exact k_rq hQ hx hb hr hlk hS hW ⟨rfl, rfl⟩ (Nat.le_of_ble_eq_true rfl) (Nat.le_of_ble_eq_true rfl) dX3_find_23
set_option maxRecDepth 100000 in
set_option maxHeartbeats 4000000 in
theorem c_X3_find_lo (l : Launch) (hlt : l.stackTraces = false) (g : k_g) (ad : k_AD) (t : k_T) (z : Int32) (hz : z < 0) : Met l yX3_find wsX3_find rm_X3_find (va_Pc [.ref (ad 5 0), .int z] (k_I g (k_ct g ad t) ad)) (va_Qq (fun r u => r = none ∧ u = t) (fun u U => k_H g ad u U.heap) (k_A g)) 0 0 (k_A g) := by
  refine k_met (cc := cX3_find) (maxL := 2) (ret := (some (.object "DrillVault$Copy"))) (by decide) rfl (Nat.le_of_ble_eq_true rfl) (fun p e s m args below meth c Q ls hQ hx hb hr hml hts hown hlk hin hK hZ hN hW hS hl => ?_)
  have hown : s.vm.findClass RX3 = some m.cls := hown
  have hW : k_H g ad t s.heap := hW
  have hl : lv_has ls 2 [(0, .ref (ad 5 0)), (1, .int z)] := hl
  refine lv_iload_n hx hb dX3_find_0 rfl (lv_at hl 1 rfl) ?_
  refine lv_if_lt (tgt := 22) hx hb dX3_find_1 (by decide) (fun h_1 => ?_) (fun h_1 => absurd h_1 (fun q => q hz))
  refine lv_null hx hb dX3_find_22 ?_
  refine k_tov (y := va_rf none) rfl ?_
  exact k_rq hQ hx hb hr hlk hS hW ⟨rfl, rfl⟩ (Nat.le_of_ble_eq_true rfl) (Nat.le_of_ble_eq_true rfl) dX3_find_23
set_option maxRecDepth 100000 in
set_option maxHeartbeats 4000000 in
theorem c_X3_find_hi (l : Launch) (hlt : l.stackTraces = false) (g : k_g) (ad : k_AD) (t : k_T) (z : Int32) (hz : nI 60 ≤ z) : Met l yX3_find wsX3_find rm_X3_find (va_Pc [.ref (ad 5 0), .int z] (k_I g (k_ct g ad t) ad)) (va_Qq (fun r u => r = none ∧ u = t) (fun u U => k_H g ad u U.heap) (k_A g)) 0 0 (k_A g) := by
  refine k_met (cc := cX3_find) (maxL := 2) (ret := (some (.object "DrillVault$Copy"))) (by decide) rfl (Nat.le_of_ble_eq_true rfl) (fun p e s m args below meth c Q ls hQ hx hb hr hml hts hown hlk hin hK hZ hN hW hS hl => ?_)
  have hown : s.vm.findClass RX3 = some m.cls := hown
  have hW : k_H g ad t s.heap := hW
  have hl : lv_has ls 2 [(0, .ref (ad 5 0)), (1, .int z)] := hl
  have hinX3 : ∀ w ∈ wsX30, w ∈ wsX3_find := by decide +kernel
  refine lv_iload_n hx hb dX3_find_0 rfl (lv_at hl 1 rfl) ?_
  refine lv_if_lt (tgt := 22) hx hb dX3_find_1 (by decide) (fun h_1 => absurd h_1 (k_ge_nneg hz (by decide))) (fun h_1 => ?_)
  refine lv_iload_n hx hb dX3_find_4 rfl (lv_at hl 1 rfl) ?_
  refine lv_aload_n hx hb dX3_find_5 rfl (lv_at hl 0 rfl) ?_
  refine k_get (own := RX3) (C := RX3) (T := TX3) (N := 5) hx hb hts hinX3 hown hK hW (kc_5 g ad t) rfl 0 (by decide) (hts (.fieldLink RX3 11 "DrillVault$Shelf" "rows" "[LDrillVault$Copy;") (by decide +kernel)) rfl (v := .ref (ad 6 0)) rfl dX3_find_6 ?_
  refine k_alen hx hb hK hW 3 rfl (kc_6 g ad t) (v := nI 60) rfl dX3_find_9 ?_
  refine lv_icmp_ge (tgt := 22) hx hb dX3_find_10 (by decide) (fun h_10 => ?_) (fun h_10 => absurd h_10 (fun q => q hz))
  refine lv_null hx hb dX3_find_22 ?_
  refine k_tov (y := va_rf none) rfl ?_
  exact k_rq hQ hx hb hr hlk hS hW ⟨rfl, rfl⟩ (Nat.le_of_ble_eq_true rfl) (Nat.le_of_ble_eq_true rfl) dX3_find_23
abbrev rm_X3_latest : Room := { frames := 0, cells := 0, slots := 0, locals := 0 }
set_option maxRecDepth 100000 in
set_option maxHeartbeats 4000000 in
theorem c_X3_latest (l : Launch) (hlt : l.stackTraces = false) (g : k_g) (ad : k_AD) (t : k_T)  : Met l yX3_latest wsX3_latest rm_X3_latest (va_Pc [.ref (ad 5 0)] (k_I g (k_ct g ad t) ad)) (va_Qq (fun r u => r = (k_la (s_th t) 60).map (ad 25) ∧ u = t) (fun u U => k_H g ad u U.heap) (k_A g)) 0 0 (k_A g) := by
  refine k_met (cc := cX3_latest) (maxL := 2) (ret := (some (.object "DrillVault$Copy"))) (by decide) rfl (Nat.le_of_ble_eq_true rfl) (fun p e s m args below meth c Q ls hQ hx hb hr hml hts hown hlk hin hK hZ hN hW hS hl => ?_)
  have hown : s.vm.findClass RX3 = some m.cls := hown
  have hW : k_H g ad t s.heap := hW
  have hl : lv_has ls 2 [(0, .ref (ad 5 0))] := hl
  have hinX3 : ∀ w ∈ wsX30, w ∈ wsX3_latest := by decide +kernel
  refine lv_aload_n hx hb dX3_latest_0 rfl (lv_at hl 0 rfl) ?_
  refine k_get (own := RX3) (C := RX3) (T := TX3) (N := 5) hx hb hts hinX3 hown hK hW (kc_5 g ad t) rfl 0 (by decide) (hts (.fieldLink RX3 11 "DrillVault$Shelf" "rows" "[LDrillVault$Copy;") (by decide +kernel)) rfl (v := .ref (ad 6 0)) rfl dX3_latest_1 ?_
  refine k_alen hx hb hK hW 3 rfl (kc_6 g ad t) (v := nI 60) rfl dX3_latest_4 ?_
  refine lv_iconst (v := nI 1) hx hb dX3_latest_5 (by decide) ?_
  refine lv_isub hx hb dX3_latest_6 ?_
  refine k_toi (k_m1 _) ?_
  refine lv_istore_n (lv' := [(1, .int (nI 60 + (-1))), (0, .ref (ad 5 0))]) hx hb dX3_latest_7 rfl hl (by decide) rfl (fun ls hl => ?_)
  have hloop_8 : ∀ (r : Nat) , (r ≤ 60) → (k_la (s_th t) 60 = k_la (s_th t) r) → ∀ (H : Heap) (locs : List Loc), k_H g ad t H → va_S (k_A g) s.heap H locs → ∀ (ls : Array Slot), lv_has ls 2 [(0, .ref (ad 5 0)), (1, .int (nI r + (-1)))] → W p l e rm_X3_latest s m args below meth c H locs 0 0 Q (F0 m 8 ls []) := by
    intro r
    induction r with
    | zero =>
      intro  hr60 hz H locs hW hS ls hl
      refine lv_iload_n hx hb dX3_latest_8 rfl (lv_at hl 1 rfl) ?_
      refine lv_if_lt (tgt := 34) hx hb dX3_latest_9 (by decide) (fun h_9 => ?_) (fun h_9 => absurd k_n0 h_9)
      refine lv_null hx hb dX3_latest_34 ?_
      refine k_tov (y := va_rf none) rfl ?_
      exact k_rq hQ hx hb hr hlk hS hW ⟨by rw [hz]; rfl, rfl⟩ (Nat.le_of_ble_eq_true rfl) (Nat.le_of_ble_eq_true rfl) dX3_latest_35
    | succ r ih =>
      intro  hr60 hz H locs hW hS ls hl
      rw [k_dec] at hl
      refine lv_iload_n hx hb dX3_latest_8 rfl (lv_at hl 1 rfl) ?_
      refine k_if_lt (tgt := 34) hx hb (by omega) dX3_latest_9 (by decide) ?_
      refine lv_aload_n hx hb dX3_latest_12 rfl (lv_at hl 0 rfl) ?_
      refine k_get (own := RX3) (C := RX3) (T := TX3) (N := 5) hx hb hts hinX3 hown hK hW (kc_5 g ad t) rfl 0 (by decide) (hts (.fieldLink RX3 11 "DrillVault$Shelf" "rows" "[LDrillVault$Copy;") (by decide +kernel)) rfl (v := .ref (ad 6 0)) rfl dX3_latest_13 ?_
      refine lv_iload_n hx hb dX3_latest_16 rfl (lv_at hl 1 rfl) ?_
      refine k_aald hx hb hK hW (kc_6 g ad t) r rfl (by omega) (by decide) dX3_latest_17 ?_
      rcases Bool.eq_false_or_eq_true (s_th t r) with hb_18 | hb_18
      · refine k_tov (y := .ref (ad 25 r)) (congrArg va_rf (if_pos hb_18)) ?_
        refine lv_ifnull hx hb dX3_latest_18 ?_
        refine lv_aload_n hx hb dX3_latest_21 rfl (lv_at hl 0 rfl) ?_
        refine k_get (own := RX3) (C := RX3) (T := TX3) (N := 5) hx hb hts hinX3 hown hK hW (kc_5 g ad t) rfl 0 (by decide) (hts (.fieldLink RX3 11 "DrillVault$Shelf" "rows" "[LDrillVault$Copy;") (by decide +kernel)) rfl (v := .ref (ad 6 0)) rfl dX3_latest_22 ?_
        refine lv_iload_n hx hb dX3_latest_25 rfl (lv_at hl 1 rfl) ?_
        refine k_aald hx hb hK hW (kc_6 g ad t) r rfl (by omega) (by decide) dX3_latest_26 ?_
        refine k_tov (y := .ref (ad 25 r)) (congrArg va_rf (if_pos hb_18)) ?_
        refine k_tov (y := va_rf (some (ad 25 r))) rfl ?_
        exact k_rq hQ hx hb hr hlk hS hW ⟨by rw [hz, k_la, if_pos hb_18]; rfl, rfl⟩ (Nat.le_of_ble_eq_true rfl) (Nat.le_of_ble_eq_true rfl) dX3_latest_27
      · refine k_tov (y := .null) (congrArg va_rf (if_neg (fun q => absurd (hb_18.symm.trans q) (by decide)))) ?_
        refine lv_ifnullN (tgt := 28) hx hb dX3_latest_18 (by decide) ?_
        refine lv_iinc (v := nI r + (-1)) (lv' := [(1, .int (nI r + (-1))), (0, .ref (ad 5 0))]) hx hb dX3_latest_28 hl (k := 1) rfl rfl (by decide) rfl (fun ls hl => ?_)
        refine lv_goto (tgt := 8) hx hb dX3_latest_31 (by decide) ?_
        exact ih  (by omega) (by rw [hz, k_la, if_neg (by rw [hb_18]; decide)]) _ _ hW hS _ (lv_sub hl [1, 0] rfl)
  exact hloop_8 60 (Nat.le_refl _) rfl _ _ hW hS _ (lv_sub hl [1, 0] rfl)
abbrev rm_X3_put : Room := { frames := 0, cells := 0, slots := 0, locals := 0 }
set_option maxRecDepth 100000 in
set_option maxHeartbeats 4000000 in
theorem c_X3_put (l : Launch) (hlt : l.stackTraces = false) (g : k_g) (ad : k_AD) (t : k_T) (hm : s_md t < 60) (hk : s_md t < o_n t) : Met l yX3_put wsX3_put rm_X3_put (va_Pc [.ref (ad 5 0), .ref (ad 25 (s_md t))] (k_I g (k_ct g ad t) ad)) (va_Qv (fun u => u = set_s_md (set_s_th t (va_up (s_th t) (s_md t) true)) (s_md t + 1)) (fun u U => k_H g ad u U.heap) (k_A g)) 0 0 (k_A g) := by
  refine k_met (cc := cX3_put) (maxL := 2) (ret := none) (by decide) rfl (Nat.le_of_ble_eq_true rfl) (fun p e s m args below meth c Q ls hQ hx hb hr hml hts hown hlk hin hK hZ hN hW hS hl => ?_)
  have hown : s.vm.findClass RX3 = some m.cls := hown
  have hW : k_H g ad t s.heap := hW
  have hl : lv_has ls 2 [(0, .ref (ad 5 0)), (1, .ref (ad 25 (s_md t)))] := hl
  have hinX3 : ∀ w ∈ wsX30, w ∈ wsX3_put := by decide +kernel
  refine lv_aload_n hx hb dX3_put_0 rfl (lv_at hl 0 rfl) ?_
  refine k_get (own := RX3) (C := RX3) (T := TX3) (N := 5) hx hb hts hinX3 hown hK hW (kc_5 g ad t) rfl 1 (by decide) (hts (.fieldLink RX3 27 "DrillVault$Shelf" "made" "I") (by decide +kernel)) rfl (v := .int (nI (s_md t))) rfl dX3_put_1 ?_
  refine k_if_lt (tgt := 39) hx hb (by omega) dX3_put_4 (by decide) ?_
  refine lv_aload_n hx hb dX3_put_7 rfl (lv_at hl 0 rfl) ?_
  refine k_get (own := RX3) (C := RX3) (T := TX3) (N := 5) hx hb hts hinX3 hown hK hW (kc_5 g ad t) rfl 1 (by decide) (hts (.fieldLink RX3 27 "DrillVault$Shelf" "made" "I") (by decide +kernel)) rfl (v := .int (nI (s_md t))) rfl dX3_put_8 ?_
  refine lv_aload_n hx hb dX3_put_11 rfl (lv_at hl 0 rfl) ?_
  refine k_get (own := RX3) (C := RX3) (T := TX3) (N := 5) hx hb hts hinX3 hown hK hW (kc_5 g ad t) rfl 0 (by decide) (hts (.fieldLink RX3 11 "DrillVault$Shelf" "rows" "[LDrillVault$Copy;") (by decide +kernel)) rfl (v := .ref (ad 6 0)) rfl dX3_put_12 ?_
  refine k_alen hx hb hK hW 3 rfl (kc_6 g ad t) (v := nI 60) rfl dX3_put_15 ?_
  refine k_icmp_ge (tgt := 39) hx hb (a := s_md t) (b := 60) (by omega) (by decide) dX3_put_16 (by decide) (fun h_16 => absurd h_16 (by omega)) (fun h_16 => ?_)
  refine lv_aload_n hx hb dX3_put_19 rfl (lv_at hl 0 rfl) ?_
  refine k_get (own := RX3) (C := RX3) (T := TX3) (N := 5) hx hb hts hinX3 hown hK hW (kc_5 g ad t) rfl 0 (by decide) (hts (.fieldLink RX3 11 "DrillVault$Shelf" "rows" "[LDrillVault$Copy;") (by decide +kernel)) rfl (v := .ref (ad 6 0)) rfl dX3_put_20 ?_
  refine lv_aload_n hx hb dX3_put_23 rfl (lv_at hl 0 rfl) ?_
  refine k_get (own := RX3) (C := RX3) (T := TX3) (N := 5) hx hb hts hinX3 hown hK hW (kc_5 g ad t) rfl 1 (by decide) (hts (.fieldLink RX3 27 "DrillVault$Shelf" "made" "I") (by decide +kernel)) rfl (v := .int (nI (s_md t))) rfl dX3_put_24 ?_
  refine lv_aload_n hx hb dX3_put_27 rfl (lv_at hl 1 rfl) ?_
  refine k_aast hx hb hK hW hS (kc_6 g ad t) (kc_25 g ad t hk) (s_md t) rfl (by omega) (by decide) dX3_put_28 (fun H locs hW hS => ?_)
  have hW : k_H g ad (set_s_th t (va_up (s_th t) (s_md t) true)) H := kt_s_th (t := t) (s_md t) hW
  refine lv_aload_n hx hb dX3_put_29 rfl (lv_at hl 0 rfl) ?_
  refine lv_dup hx hb dX3_put_30 rfl ?_
  refine k_get (own := RX3) (C := RX3) (T := TX3) (N := 5) hx hb hts hinX3 hown hK hW (kc_5 g ad (set_s_th t (va_up (s_th t) (s_md t) true))) rfl 1 (by decide) (hts (.fieldLink RX3 27 "DrillVault$Shelf" "made" "I") (by decide +kernel)) rfl (v := .int (nI (s_md t))) rfl dX3_put_31 ?_
  refine lv_iconst (v := nI 1) hx hb dX3_put_34 (by decide) ?_
  refine k_iadd hx hb dX3_put_35 ?_
  refine k_put (own := RX3) (C := RX3) (T := TX3) (N := 5) hx hb hts hinX3 tyX3 tyX3_ok nmX3 hown hK hW hS (kc_5 g ad (set_s_th t (va_up (s_th t) (s_md t) true))) rfl 1 (by decide) (hts (.fieldLink RX3 27 "DrillVault$Shelf" "made" "I") (by decide +kernel)) rfl rfl (ty := tyX3 1) (v := .int (nI ((s_md t) + 1))) (tyX3_ok 1 (by decide)) rfl rfl (Nat.le_of_ble_eq_true rfl) dX3_put_36 (fun H locs hW hS => ?_)
  have hW : k_H g ad (set_s_md (set_s_th t (va_up (s_th t) (s_md t) true)) ((s_md t) + 1)) H := kt_s_md (t := set_s_th t (va_up (s_th t) (s_md t) true)) ((s_md t) + 1) rfl hW
  exact k_rv hQ hx hb hr hlk hS hW rfl (Nat.le_of_ble_eq_true rfl) (Nat.le_of_ble_eq_true rfl) dX3_put_39
abbrev rm_X3_countThere : Room := { frames := 0, cells := 0, slots := 0, locals := 0 }
set_option maxRecDepth 100000 in
set_option maxHeartbeats 4000000 in
theorem c_X3_countThere (l : Launch) (hlt : l.stackTraces = false) (g : k_g) (ad : k_AD) (t : k_T) (hwf : ∀ j, s_th t j = true → j < o_n t) : Met l yX3_countThere wsX3_countThere rm_X3_countThere (va_Pc [.ref (ad 5 0)] (k_I g (k_ct g ad t) ad)) (va_Qi (fun r u => r = nI (k_cb (s_th t) 60) ∧ u = t) (fun u U => k_H g ad u U.heap) (k_A g)) 0 0 (k_A g) := by
  refine k_met (cc := cX3_countThere) (maxL := 6) (ret := (some .int)) (by decide) rfl (Nat.le_of_ble_eq_true rfl) (fun p e s m args below meth c Q ls hQ hx hb hr hml hts hown hlk hin hK hZ hN hW hS hl => ?_)
  have hown : s.vm.findClass RX3 = some m.cls := hown
  have hW : k_H g ad t s.heap := hW
  have hl : lv_has ls 6 [(0, .ref (ad 5 0))] := hl
  have hinX3 : ∀ w ∈ wsX30, w ∈ wsX3_countThere := by decide +kernel
  refine lv_iconst (v := nI 0) hx hb dX3_countThere_0 (by decide) ?_
  refine lv_istore_n (lv' := [(1, .int (nI 0)), (0, .ref (ad 5 0))]) hx hb dX3_countThere_1 rfl hl (by decide) rfl (fun ls hl => ?_)
  refine lv_aload_n hx hb dX3_countThere_2 rfl (lv_at hl 1 rfl) ?_
  refine k_get (own := RX3) (C := RX3) (T := TX3) (N := 5) hx hb hts hinX3 hown hK hW (kc_5 g ad t) rfl 0 (by decide) (hts (.fieldLink RX3 11 "DrillVault$Shelf" "rows" "[LDrillVault$Copy;") (by decide +kernel)) rfl (v := .ref (ad 6 0)) rfl dX3_countThere_3 ?_
  refine lv_astore_n (lv' := [(2, .ref (ad 6 0)), (1, .int (nI 0)), (0, .ref (ad 5 0))]) hx hb dX3_countThere_6 rfl hl (by decide) rfl (fun ls hl => ?_)
  refine lv_aload_n hx hb dX3_countThere_7 rfl (lv_at hl 0 rfl) ?_
  refine k_alen hx hb hK hW 3 rfl (kc_6 g ad t) (v := nI 60) rfl dX3_countThere_8 ?_
  refine lv_istore_n (lv' := [(3, .int (nI 60)), (2, .ref (ad 6 0)), (1, .int (nI 0)), (0, .ref (ad 5 0))]) hx hb dX3_countThere_9 rfl hl (by decide) rfl (fun ls hl => ?_)
  refine lv_iconst (v := nI 0) hx hb dX3_countThere_10 (by decide) ?_
  refine lv_istore (lv' := [(4, .int (nI 0)), (3, .int (nI 60)), (2, .ref (ad 6 0)), (1, .int (nI 0)), (0, .ref (ad 5 0))]) hx hb dX3_countThere_11 hl (by decide) rfl (fun ls hl => ?_)
  have hloop_13 : ∀ (n : Nat) (i : Nat) (cn : Nat), (60 < i + n) → (i ≤ 60) → (cn = k_cb (s_th t) i) → ∀ (H : Heap) (locs : List Loc), k_H g ad t H → va_S (k_A g) s.heap H locs → ∀ (ls : Array Slot), lv_has ls 6 [(0, .ref (ad 5 0)), (2, .ref (ad 6 0)), (3, .int (nI 60)), (4, .int (nI i)), (1, .int (nI cn))] → W p l e rm_X3_countThere s m args below meth c H locs 0 0 Q (F0 m 13 ls []) := by
    intro n
    induction n with
    | zero =>
      intro i cn hfu hi hcn
      exact absurd hfu (by omega)
    | succ n ih =>
      intro i cn hfu hi hcn H locs hW hS ls hl
      refine lv_iload hx hb dX3_countThere_13 (lv_at hl 3 rfl) ?_
      refine lv_iload_n hx hb dX3_countThere_15 rfl (lv_at hl 2 rfl) ?_
      refine k_icmp_ge (tgt := 39) hx hb (a := i) (b := 60) (by omega) (by decide) dX3_countThere_16 (by decide) (fun h_16 => ?_) (fun h_16 => ?_)
      · refine lv_iload_n hx hb dX3_countThere_39 rfl (lv_at hl 4 rfl) ?_
        exact k_ri hQ hx hb hr hlk hS hW ⟨by rw [hcn, show i = 60 by omega], rfl⟩ (Nat.le_of_ble_eq_true rfl) (Nat.le_of_ble_eq_true rfl) dX3_countThere_40
      · refine lv_aload_n hx hb dX3_countThere_19 rfl (lv_at hl 1 rfl) ?_
        refine lv_iload hx hb dX3_countThere_20 (lv_at hl 3 rfl) ?_
        refine k_aald hx hb hK hW (kc_6 g ad t) i rfl (by omega) (by decide) dX3_countThere_22 ?_
        rcases Bool.eq_false_or_eq_true (s_th t i) with hb_23 | hb_23
        · refine k_tov (y := .ref (ad 25 i)) (congrArg va_rf (if_pos hb_23)) ?_
          refine lv_astore (lv' := [(5, .ref (ad 25 i)), (0, .ref (ad 5 0)), (2, .ref (ad 6 0)), (3, .int (nI 60)), (4, .int (nI i)), (1, .int (nI cn))]) hx hb dX3_countThere_23 hl (by decide) rfl (fun ls hl => ?_)
          refine lv_aload hx hb dX3_countThere_25 (lv_at hl 0 rfl) ?_
          refine lv_ifnull hx hb dX3_countThere_27 ?_
          refine lv_iinc (v := nI (cn + 1)) (lv' := [(1, .int (nI (cn + 1))), (5, .ref (ad 25 i)), (0, .ref (ad 5 0)), (2, .ref (ad 6 0)), (3, .int (nI 60)), (4, .int (nI i))]) hx hb dX3_countThere_30 hl (k := 5) rfl (nI_add _ _) (by decide) rfl (fun ls hl => ?_)
          refine lv_iinc (v := nI (i + 1)) (lv' := [(4, .int (nI (i + 1))), (1, .int (nI (cn + 1))), (5, .ref (ad 25 i)), (0, .ref (ad 5 0)), (2, .ref (ad 6 0)), (3, .int (nI 60))]) hx hb dX3_countThere_33 hl (k := 5) rfl (nI_add _ _) (by decide) rfl (fun ls hl => ?_)
          refine lv_goto (tgt := 13) hx hb dX3_countThere_36 (by decide) ?_
          exact ih (i + 1) (cn + 1) (by omega) (by omega) (by rw [k_cb, if_pos hb_23, hcn]) _ _ hW hS _ (lv_sub hl [3, 4, 5, 0, 1] rfl)
        · refine k_tov (y := .null) (congrArg va_rf (if_neg (fun q => absurd (hb_23.symm.trans q) (by decide)))) ?_
          refine lv_astoreN (lv' := [(5, .null), (0, .ref (ad 5 0)), (2, .ref (ad 6 0)), (3, .int (nI 60)), (4, .int (nI i)), (1, .int (nI cn))]) hx hb dX3_countThere_23 hl (by decide) rfl (fun ls hl => ?_)
          refine lv_aloadN hx hb dX3_countThere_25 (lv_at hl 0 rfl) ?_
          refine lv_ifnullN (tgt := 33) hx hb dX3_countThere_27 (by decide) ?_
          refine lv_iinc (v := nI (i + 1)) (lv' := [(4, .int (nI (i + 1))), (5, .null), (0, .ref (ad 5 0)), (2, .ref (ad 6 0)), (3, .int (nI 60)), (1, .int (nI cn))]) hx hb dX3_countThere_33 hl (k := 4) rfl (nI_add _ _) (by decide) rfl (fun ls hl => ?_)
          refine lv_goto (tgt := 13) hx hb dX3_countThere_36 (by decide) ?_
          exact ih (i + 1) cn (by omega) (by omega) (by rw [k_cb, if_neg (by rw [hb_23]; decide), hcn]) _ _ hW hS _ (lv_sub hl [2, 3, 4, 0, 5] rfl)
  exact hloop_13 61 0 0 (by omega) (by omega) rfl _ _ hW hS _ (lv_sub hl [4, 2, 1, 0, 3] rfl)
abbrev rm_X3_spaceTaken : Room := { frames := 1, cells := 0, slots := 0, locals := 20 }
set_option maxRecDepth 100000 in
set_option maxHeartbeats 4000000 in
theorem c_X3_spaceTaken (l : Launch) (hlt : l.stackTraces = false) (g : k_g) (ad : k_AD) (t : k_T) (hwf : ∀ j, s_th t j = true → j < o_n t) : Met l yX3_spaceTaken wsX3_spaceTaken rm_X3_spaceTaken (va_Pc [.ref (ad 5 0)] (k_I g (k_ct g ad t) ad)) (va_Qi (fun r u => r = nI (k_sm (s_th t) (fun k => (o_kc t) k + 1) 60) ∧ u = t) (fun u U => k_H g ad u U.heap) (k_A g)) 0 0 (k_A g) := by
  refine k_met (cc := cX3_spaceTaken) (maxL := 6) (ret := (some .int)) (by decide) rfl (Nat.le_of_ble_eq_true rfl) (fun p e s m args below meth c Q ls hQ hx hb hr hml hts hown hlk hin hK hZ hN hW hS hl => ?_)
  have hown : s.vm.findClass RX3 = some m.cls := hown
  have hW : k_H g ad t s.heap := hW
  have hl : lv_has ls 6 [(0, .ref (ad 5 0))] := hl
  have hinX3 : ∀ w ∈ wsX30, w ∈ wsX3_spaceTaken := by decide +kernel
  refine lv_iconst (v := nI 0) hx hb dX3_spaceTaken_0 (by decide) ?_
  refine lv_istore_n (lv' := [(1, .int (nI 0)), (0, .ref (ad 5 0))]) hx hb dX3_spaceTaken_1 rfl hl (by decide) rfl (fun ls hl => ?_)
  refine lv_aload_n hx hb dX3_spaceTaken_2 rfl (lv_at hl 1 rfl) ?_
  refine k_get (own := RX3) (C := RX3) (T := TX3) (N := 5) hx hb hts hinX3 hown hK hW (kc_5 g ad t) rfl 0 (by decide) (hts (.fieldLink RX3 11 "DrillVault$Shelf" "rows" "[LDrillVault$Copy;") (by decide +kernel)) rfl (v := .ref (ad 6 0)) rfl dX3_spaceTaken_3 ?_
  refine lv_astore_n (lv' := [(2, .ref (ad 6 0)), (1, .int (nI 0)), (0, .ref (ad 5 0))]) hx hb dX3_spaceTaken_6 rfl hl (by decide) rfl (fun ls hl => ?_)
  refine lv_aload_n hx hb dX3_spaceTaken_7 rfl (lv_at hl 0 rfl) ?_
  refine k_alen hx hb hK hW 3 rfl (kc_6 g ad t) (v := nI 60) rfl dX3_spaceTaken_8 ?_
  refine lv_istore_n (lv' := [(3, .int (nI 60)), (2, .ref (ad 6 0)), (1, .int (nI 0)), (0, .ref (ad 5 0))]) hx hb dX3_spaceTaken_9 rfl hl (by decide) rfl (fun ls hl => ?_)
  refine lv_iconst (v := nI 0) hx hb dX3_spaceTaken_10 (by decide) ?_
  refine lv_istore (lv' := [(4, .int (nI 0)), (3, .int (nI 60)), (2, .ref (ad 6 0)), (1, .int (nI 0)), (0, .ref (ad 5 0))]) hx hb dX3_spaceTaken_11 hl (by decide) rfl (fun ls hl => ?_)
  have hloop_13 : ∀ (n : Nat) (i : Nat) (cn : Nat), (60 < i + n) → (i ≤ 60) → (cn = k_sm (s_th t) (fun k => o_kc t k + 1) i) → ∀ (H : Heap) (locs : List Loc), k_H g ad t H → va_S (k_A g) s.heap H locs → ∀ (ls : Array Slot), lv_has ls 6 [(0, .ref (ad 5 0)), (2, .ref (ad 6 0)), (3, .int (nI 60)), (4, .int (nI i)), (1, .int (nI cn))] → W p l e rm_X3_spaceTaken s m args below meth c H locs 0 0 Q (F0 m 13 ls []) := by
    intro n
    induction n with
    | zero =>
      intro i cn hfu hi hcn
      exact absurd hfu (by omega)
    | succ n ih =>
      intro i cn hfu hi hcn H locs hW hS ls hl
      refine lv_iload hx hb dX3_spaceTaken_13 (lv_at hl 3 rfl) ?_
      refine lv_iload_n hx hb dX3_spaceTaken_15 rfl (lv_at hl 2 rfl) ?_
      refine k_icmp_ge (tgt := 44) hx hb (a := i) (b := 60) (by omega) (by decide) dX3_spaceTaken_16 (by decide) (fun h_16 => ?_) (fun h_16 => ?_)
      · refine lv_iload_n hx hb dX3_spaceTaken_44 rfl (lv_at hl 4 rfl) ?_
        exact k_ri hQ hx hb hr hlk hS hW ⟨by rw [hcn, show i = 60 by omega], rfl⟩ (Nat.le_of_ble_eq_true rfl) (Nat.le_of_ble_eq_true rfl) dX3_spaceTaken_45
      · refine lv_aload_n hx hb dX3_spaceTaken_19 rfl (lv_at hl 1 rfl) ?_
        refine lv_iload hx hb dX3_spaceTaken_20 (lv_at hl 3 rfl) ?_
        refine k_aald hx hb hK hW (kc_6 g ad t) i rfl (by omega) (by decide) dX3_spaceTaken_22 ?_
        rcases Bool.eq_false_or_eq_true (s_th t i) with hb_23 | hb_23
        · refine k_tov (y := .ref (ad 25 i)) (congrArg va_rf (if_pos hb_23)) ?_
          refine lv_astore (lv' := [(5, .ref (ad 25 i)), (0, .ref (ad 5 0)), (2, .ref (ad 6 0)), (3, .int (nI 60)), (4, .int (nI i)), (1, .int (nI cn))]) hx hb dX3_spaceTaken_23 hl (by decide) rfl (fun ls hl => ?_)
          refine lv_aload hx hb dX3_spaceTaken_25 (lv_at hl 0 rfl) ?_
          refine lv_ifnull hx hb dX3_spaceTaken_27 ?_
          refine lv_iload_n hx hb dX3_spaceTaken_30 rfl (lv_at hl 5 rfl) ?_
          refine lv_aload hx hb dX3_spaceTaken_31 (lv_at hl 0 rfl) ?_
          refine k_ci (va_runV (As := []) (rest := [.int (nI cn)]) ⟨hx, hb, hml, hown, hts⟩ (c_X0_spaceTaken l hlt g ad t i (hwf _ hb_23)) (cwV 0 hts gX3_spaceTaken_X0_spaceTaken rfl rfl rfl (by decide +kernel) ⟨(Nat.le_of_ble_eq_true rfl), (Nat.le_of_ble_eq_true rfl)⟩) ⟨k_blind, k_recv hK hW (kc_25 g ad t (hwf _ hb_23)) rfl, fun U hU hw => ⟨rfl, k_I.of hK hZ hN hS hW hU hw⟩⟩ rfl rfl hl.1 rfl (lv_room (Nat.le_of_ble_eq_true rfl)) dX3_spaceTaken_33 ⟨(Nat.le_of_ble_eq_true rfl), (Nat.le_of_ble_eq_true rfl)⟩) hS (fun r u H locs hpo hW hS => ?_)
          obtain ⟨hr9, hu9⟩ := hpo; replace hu9 := hu9.symm; subst hu9; replace hr9 := hr9.symm; subst hr9
          refine k_iadd hx hb dX3_spaceTaken_36 ?_
          refine lv_istore_n (lv' := [(1, .int (nI (cn + (o_kc t i + 1)))), (5, .ref (ad 25 i)), (0, .ref (ad 5 0)), (2, .ref (ad 6 0)), (3, .int (nI 60)), (4, .int (nI i))]) hx hb dX3_spaceTaken_37 rfl hl (by decide) rfl (fun ls hl => ?_)
          refine lv_iinc (v := nI (i + 1)) (lv' := [(4, .int (nI (i + 1))), (1, .int (nI (cn + (o_kc t i + 1)))), (5, .ref (ad 25 i)), (0, .ref (ad 5 0)), (2, .ref (ad 6 0)), (3, .int (nI 60))]) hx hb dX3_spaceTaken_38 hl (k := 5) rfl (nI_add _ _) (by decide) rfl (fun ls hl => ?_)
          refine lv_goto (tgt := 13) hx hb dX3_spaceTaken_41 (by decide) ?_
          exact ih (i + 1) (cn + (o_kc t i + 1)) (by omega) (by omega) (by rw [k_sm, if_pos hb_23, hcn]) _ _ hW hS _ (lv_sub hl [3, 4, 5, 0, 1] rfl)
        · refine k_tov (y := .null) (congrArg va_rf (if_neg (fun q => absurd (hb_23.symm.trans q) (by decide)))) ?_
          refine lv_astoreN (lv' := [(5, .null), (0, .ref (ad 5 0)), (2, .ref (ad 6 0)), (3, .int (nI 60)), (4, .int (nI i)), (1, .int (nI cn))]) hx hb dX3_spaceTaken_23 hl (by decide) rfl (fun ls hl => ?_)
          refine lv_aloadN hx hb dX3_spaceTaken_25 (lv_at hl 0 rfl) ?_
          refine lv_ifnullN (tgt := 38) hx hb dX3_spaceTaken_27 (by decide) ?_
          refine lv_iinc (v := nI (i + 1)) (lv' := [(4, .int (nI (i + 1))), (5, .null), (0, .ref (ad 5 0)), (2, .ref (ad 6 0)), (3, .int (nI 60)), (1, .int (nI cn))]) hx hb dX3_spaceTaken_38 hl (k := 4) rfl (nI_add _ _) (by decide) rfl (fun ls hl => ?_)
          refine lv_goto (tgt := 13) hx hb dX3_spaceTaken_41 (by decide) ?_
          exact ih (i + 1) cn (by omega) (by omega) (by rw [k_sm, if_neg (by rw [hb_23]; decide), hcn]) _ _ hW hS _ (lv_sub hl [2, 3, 4, 0, 5] rfl)
  exact hloop_13 61 0 0 (by omega) (by omega) rfl _ _ hW hS _ (lv_sub hl [4, 2, 1, 0, 3] rfl)
end
section
abbrev rm_X0_periodOf : Room := { frames := 0, cells := 0, slots := 0, locals := 0 }
set_option maxRecDepth 100000 in
set_option maxHeartbeats 4000000 in
theorem c_X0_periodOf_0 (l : Launch) (hlt : l.stackTraces = false) (g : k_g) (ad : k_AD) (t : k_T) (k : Nat) (hk : k < o_n t) (hd : o_on t k ≤ 360) : Met l yX0_periodOf wsX0_periodOf rm_X0_periodOf (va_Pc [.ref (ad 25 k), .int (nI 0)] (k_I g (k_ct g ad t) ad)) (va_Qi (fun r u => r = nI (k_pd 0 (o_on t k)) ∧ u = t) (fun u U => k_H g ad u U.heap) (k_A g)) 0 0 (k_A g) := by
  refine k_met (cc := cX0_periodOf) (maxL := 2) (ret := (some .int)) (by decide) rfl (Nat.le_of_ble_eq_true rfl) (fun p e s m args below meth c Q ls hQ hx hb hr hml hts hown hlk hin hK hZ hN hW hS hl => ?_)
  have hown : s.vm.findClass RX0 = some m.cls := hown
  have hW : k_H g ad t s.heap := hW
  have hl : lv_has ls 2 [(0, .ref (ad 25 k)), (1, .int (nI 0))] := hl
  have hinX0 : ∀ w ∈ wsX00, w ∈ wsX0_periodOf := by decide +kernel
  refine lv_iload_n hx hb dX0_periodOf_0 rfl (lv_at hl 1 rfl) ?_
  refine lv_lookup (off := 43) (tgt := 44) hx hb dX0_periodOf_1 (by decide) (by decide) (by decide) ?_
  refine lv_aload_n hx hb dX0_periodOf_44 rfl (lv_at hl 0 rfl) ?_
  refine k_get (own := RX0) (C := RX0) (T := TX0) (N := 11) hx hb hts hinX0 hown hK hW (kc_25 g ad t hk) rfl 1 (by decide) (hts (.fieldLink RX0 19 "DrillVault$Copy" "madeOn" "I") (by decide +kernel)) rfl (v := .int (nI (o_on t k))) rfl dX0_periodOf_45 ?_
  exact k_ri hQ hx hb hr hlk hS hW ⟨rfl, rfl⟩ (Nat.le_of_ble_eq_true rfl) (Nat.le_of_ble_eq_true rfl) dX0_periodOf_48
set_option maxRecDepth 100000 in
set_option maxHeartbeats 4000000 in
theorem c_X0_periodOf_1 (l : Launch) (hlt : l.stackTraces = false) (g : k_g) (ad : k_AD) (t : k_T) (k : Nat) (hk : k < o_n t) (hd : o_on t k ≤ 360) : Met l yX0_periodOf wsX0_periodOf rm_X0_periodOf (va_Pc [.ref (ad 25 k), .int (nI 1)] (k_I g (k_ct g ad t) ad)) (va_Qi (fun r u => r = nI (k_pd 1 (o_on t k)) ∧ u = t) (fun u U => k_H g ad u U.heap) (k_A g)) 0 0 (k_A g) := by
  refine k_met (cc := cX0_periodOf) (maxL := 2) (ret := (some .int)) (by decide) rfl (Nat.le_of_ble_eq_true rfl) (fun p e s m args below meth c Q ls hQ hx hb hr hml hts hown hlk hin hK hZ hN hW hS hl => ?_)
  have hown : s.vm.findClass RX0 = some m.cls := hown
  have hW : k_H g ad t s.heap := hW
  have hl : lv_has ls 2 [(0, .ref (ad 25 k)), (1, .int (nI 1))] := hl
  have hinX0 : ∀ w ∈ wsX00, w ∈ wsX0_periodOf := by decide +kernel
  refine lv_iload_n hx hb dX0_periodOf_0 rfl (lv_at hl 1 rfl) ?_
  refine lv_lookup (off := 27) (tgt := 28) hx hb dX0_periodOf_1 (by decide) (by decide) (by decide) ?_
  refine lv_aload_n hx hb dX0_periodOf_28 rfl (lv_at hl 0 rfl) ?_
  refine k_get (own := RX0) (C := RX0) (T := TX0) (N := 11) hx hb hts hinX0 hown hK hW (kc_25 g ad t hk) rfl 1 (by decide) (hts (.fieldLink RX0 19 "DrillVault$Copy" "madeOn" "I") (by decide +kernel)) rfl (v := .int (nI (o_on t k))) rfl dX0_periodOf_29 ?_
  refine lv_bipush (v := nI 7) hx hb dX0_periodOf_32 (by decide) ?_
  refine lv_idiv hx hb dX0_periodOf_34 (by decide) ?_
  refine k_toi (pk_div (by omega) (by decide) (by decide)) ?_
  exact k_ri hQ hx hb hr hlk hS hW ⟨rfl, rfl⟩ (Nat.le_of_ble_eq_true rfl) (Nat.le_of_ble_eq_true rfl) dX0_periodOf_35
set_option maxRecDepth 100000 in
set_option maxHeartbeats 4000000 in
theorem c_X0_periodOf_2 (l : Launch) (hlt : l.stackTraces = false) (g : k_g) (ad : k_AD) (t : k_T) (k : Nat) (hk : k < o_n t) (hd : o_on t k ≤ 360) : Met l yX0_periodOf wsX0_periodOf rm_X0_periodOf (va_Pc [.ref (ad 25 k), .int (nI 2)] (k_I g (k_ct g ad t) ad)) (va_Qi (fun r u => r = nI (k_pd 2 (o_on t k)) ∧ u = t) (fun u U => k_H g ad u U.heap) (k_A g)) 0 0 (k_A g) := by
  refine k_met (cc := cX0_periodOf) (maxL := 2) (ret := (some .int)) (by decide) rfl (Nat.le_of_ble_eq_true rfl) (fun p e s m args below meth c Q ls hQ hx hb hr hml hts hown hlk hin hK hZ hN hW hS hl => ?_)
  have hown : s.vm.findClass RX0 = some m.cls := hown
  have hW : k_H g ad t s.heap := hW
  have hl : lv_has ls 2 [(0, .ref (ad 25 k)), (1, .int (nI 2))] := hl
  have hinX0 : ∀ w ∈ wsX00, w ∈ wsX0_periodOf := by decide +kernel
  refine lv_iload_n hx hb dX0_periodOf_0 rfl (lv_at hl 1 rfl) ?_
  refine lv_lookup (off := 35) (tgt := 36) hx hb dX0_periodOf_1 (by decide) (by decide) (by decide) ?_
  refine lv_aload_n hx hb dX0_periodOf_36 rfl (lv_at hl 0 rfl) ?_
  refine k_get (own := RX0) (C := RX0) (T := TX0) (N := 11) hx hb hts hinX0 hown hK hW (kc_25 g ad t hk) rfl 1 (by decide) (hts (.fieldLink RX0 19 "DrillVault$Copy" "madeOn" "I") (by decide +kernel)) rfl (v := .int (nI (o_on t k))) rfl dX0_periodOf_37 ?_
  refine lv_bipush (v := nI 28) hx hb dX0_periodOf_40 (by decide) ?_
  refine lv_idiv hx hb dX0_periodOf_42 (by decide) ?_
  refine k_toi (pk_div (by omega) (by decide) (by decide)) ?_
  exact k_ri hQ hx hb hr hlk hS hW ⟨rfl, rfl⟩ (Nat.le_of_ble_eq_true rfl) (Nat.le_of_ble_eq_true rfl) dX0_periodOf_43
abbrev rm_X3_promiseLatest : Room := { frames := 1, cells := 0, slots := 0, locals := 21 }
set_option maxRecDepth 100000 in
set_option maxHeartbeats 4000000 in
theorem c_X3_promiseLatest_0 (l : Launch) (hlt : l.stackTraces = false) (g : k_g) (ad : k_AD) (t : k_T) (w : Nat) (hw : w ≤ 30) (hwf : ∀ j, s_th t j = true → j < o_n t) (hon : ∀ j, j < o_n t → o_on t j ≤ 360) : Met l yX3_promiseLatest wsX3_promiseLatest rm_X3_promiseLatest (va_Pc [.ref (ad 5 0), .int (nI 0), .int (nI w)] (k_I g (k_ct g ad t) ad)) (va_Qv (fun u => u = set_o_pm t (fun j => (o_pm t) j || k_sel (s_th t) (fun j => k_pd 0 (o_on t j)) 60 w (-1) j)) (fun u U => k_H g ad u U.heap) (k_A g)) 0 0 (k_A g) := by
  refine k_met (cc := cX3_promiseLatest) (maxL := 7) (ret := none) (by decide) rfl (Nat.le_of_ble_eq_true rfl) (fun p e s m args below meth c Q ls hQ hx hb hr hml hts hown hlk hin hK hZ hN hW hS hl => ?_)
  have hown : s.vm.findClass RX3 = some m.cls := hown
  have hW : k_H g ad t s.heap := hW
  have hl : lv_has ls 7 [(0, .ref (ad 5 0)), (1, .int (nI 0)), (2, .int (nI w))] := hl
  have hinX0 : ∀ w ∈ wsX00, w ∈ wsX3_promiseLatest := by decide +kernel
  have hinX3 : ∀ w ∈ wsX30, w ∈ wsX3_promiseLatest := by decide +kernel
  refine lv_iload_n hx hb dX3_promiseLatest_0 rfl (lv_at hl 2 rfl) ?_
  refine lv_istore_n (lv' := [(3, .int (nI w)), (0, .ref (ad 5 0)), (1, .int (nI 0)), (2, .int (nI w))]) hx hb dX3_promiseLatest_1 rfl hl (by decide) rfl (fun ls hl => ?_)
  refine lv_iconst (v := (-1)) hx hb dX3_promiseLatest_2 (by decide) ?_
  refine lv_istore (lv' := [(4, .int (-1)), (3, .int (nI w)), (0, .ref (ad 5 0)), (1, .int (nI 0)), (2, .int (nI w))]) hx hb dX3_promiseLatest_3 hl (by decide) rfl (fun ls hl => ?_)
  refine lv_aload_n hx hb dX3_promiseLatest_5 rfl (lv_at hl 2 rfl) ?_
  refine k_get (own := RX3) (C := RX3) (T := TX3) (N := 5) hx hb hts hinX3 hown hK hW (kc_5 g ad t) rfl 0 (by decide) (hts (.fieldLink RX3 11 "DrillVault$Shelf" "rows" "[LDrillVault$Copy;") (by decide +kernel)) rfl (v := .ref (ad 6 0)) rfl dX3_promiseLatest_6 ?_
  refine k_alen hx hb hK hW 3 rfl (kc_6 g ad t) (v := nI 60) rfl dX3_promiseLatest_9 ?_
  refine lv_iconst (v := nI 1) hx hb dX3_promiseLatest_10 (by decide) ?_
  refine lv_isub hx hb dX3_promiseLatest_11 ?_
  refine k_toi (k_m1 _) ?_
  refine lv_istore (lv' := [(5, .int (nI 60 + (-1))), (4, .int (-1)), (3, .int (nI w)), (0, .ref (ad 5 0)), (1, .int (nI 0)), (2, .int (nI w))]) hx hb dX3_promiseLatest_12 hl (by decide) rfl (fun ls hl => ?_)
  have hloop_14 : ∀ (r : Nat) (y : Int32) (lf : Nat) (z : Int32) (Pm : Nat → Bool), (r ≤ 60) → (y = nI lf) → (lf ≤ 30) → (∀ j, (fun j => o_pm t j || k_sel (s_th t) (fun j => k_pd 0 (o_on t j)) 60 w (-1) j) j = (Pm j || k_sel (s_th t) (fun j => k_pd 0 (o_on t j)) r lf z j)) → ∀ (H : Heap) (locs : List Loc), k_H g ad (set_o_pm t Pm) H → va_S (k_A g) s.heap H locs → ∀ (ls : Array Slot), lv_has ls 7 [(0, .ref (ad 5 0)), (1, .int (nI 0)), (3, .int y), (4, .int z), (5, .int (nI r + (-1)))] → W p l e rm_X3_promiseLatest s m args below meth c H locs 0 0 Q (F0 m 14 ls []) := by
    intro r
    induction r with
    | zero =>
      intro y lf z Pm hr60 hy hlf hP H locs hW hS ls hl
      refine lv_iload hx hb dX3_promiseLatest_14 (lv_at hl 4 rfl) ?_
      refine lv_if_lt (tgt := 71) hx hb dX3_promiseLatest_16 (by decide) (fun h_16 => ?_) (fun h_16 => absurd k_n0 h_16)
      exact k_rv hQ hx hb hr hlk hS hW (by rw [show Pm = (fun j => o_pm t j || k_sel (s_th t) (fun j => k_pd 0 (o_on t j)) 60 w (-1) j) from funext fun j => ((hP j).trans (Bool.or_false _)).symm]) (Nat.le_of_ble_eq_true rfl) (Nat.le_of_ble_eq_true rfl) dX3_promiseLatest_71
    | succ r ih =>
      intro y lf z Pm hr60 hy hlf hP H locs hW hS ls hl
      rw [k_dec] at hl
      subst hy
      refine lv_iload hx hb dX3_promiseLatest_14 (lv_at hl 4 rfl) ?_
      refine k_if_lt (tgt := 71) hx hb (by omega) dX3_promiseLatest_16 (by decide) ?_
      refine lv_iload_n hx hb dX3_promiseLatest_19 rfl (lv_at hl 2 rfl) ?_
      refine k_if_le (tgt := 71) hx hb (by omega) dX3_promiseLatest_20 (by decide) (fun h_20 => ?_) (fun h_20 => ?_)
      · exact k_rv hQ hx hb hr hlk hS hW (by rw [show Pm = (fun j => o_pm t j || k_sel (s_th t) (fun j => k_pd 0 (o_on t j)) 60 w (-1) j) from funext fun j => ((hP j).trans (by rw [h_20, k_sel_0, Bool.or_false])).symm]) (Nat.le_of_ble_eq_true rfl) (Nat.le_of_ble_eq_true rfl) dX3_promiseLatest_71
      · refine lv_aload_n hx hb dX3_promiseLatest_23 rfl (lv_at hl 0 rfl) ?_
        refine k_get (own := RX3) (C := RX3) (T := TX3) (N := 5) hx hb hts hinX3 hown hK hW (kc_5 g ad (set_o_pm t Pm)) rfl 0 (by decide) (hts (.fieldLink RX3 11 "DrillVault$Shelf" "rows" "[LDrillVault$Copy;") (by decide +kernel)) rfl (v := .ref (ad 6 0)) rfl dX3_promiseLatest_24 ?_
        refine lv_iload hx hb dX3_promiseLatest_27 (lv_at hl 4 rfl) ?_
        refine k_aald hx hb hK hW (kc_6 g ad (set_o_pm t Pm)) r rfl (by omega) (by decide) dX3_promiseLatest_29 ?_
        rcases Bool.eq_false_or_eq_true (s_th t r) with hb_30 | hb_30
        · refine k_tov (y := .ref (ad 25 r)) (congrArg va_rf (if_pos hb_30)) ?_
          refine lv_astore (lv' := [(6, .ref (ad 25 r)), (0, .ref (ad 5 0)), (1, .int (nI 0)), (3, .int (nI lf)), (4, .int z), (5, .int (nI r))]) hx hb dX3_promiseLatest_30 hl (by decide) rfl (fun ls hl => ?_)
          refine lv_aload hx hb dX3_promiseLatest_32 (lv_at hl 0 rfl) ?_
          refine lv_ifnull hx hb dX3_promiseLatest_34 ?_
          refine lv_aload hx hb dX3_promiseLatest_37 (lv_at hl 0 rfl) ?_
          refine lv_iload_n hx hb dX3_promiseLatest_39 rfl (lv_at hl 2 rfl) ?_
          refine k_ci (va_runV (As := [.int (nI 0)]) (rest := []) ⟨hx, hb, hml, hown, hts⟩ (c_X0_periodOf_0 l hlt g ad (set_o_pm t Pm) r (hwf _ hb_30) (hon _ (hwf _ hb_30))) (cwV 1 hts gX3_promiseLatest_X0_periodOf rfl rfl rfl (by decide +kernel) ⟨(Nat.le_of_ble_eq_true rfl), (Nat.le_of_ble_eq_true rfl)⟩) ⟨k_blind, k_recv hK hW (kc_25 g ad (set_o_pm t Pm) (hwf _ hb_30)) rfl, fun U hU hw => ⟨rfl, k_I.of hK hZ hN hS hW hU hw⟩⟩ rfl rfl hl.1 rfl (lv_room (Nat.le_of_ble_eq_true rfl)) dX3_promiseLatest_40 ⟨(Nat.le_of_ble_eq_true rfl), (Nat.le_of_ble_eq_true rfl)⟩) hS (fun r u H locs hpo hW hS => ?_)
          obtain ⟨hr9, hu9⟩ := hpo; replace hu9 := hu9.symm; subst hu9; replace hr9 := hr9.symm; subst hr9
          refine lv_iload hx hb dX3_promiseLatest_43 (lv_at hl 4 rfl) ?_
          refine lv_icmp_eq (tgt := 65) hx hb dX3_promiseLatest_45 (by decide) (fun h_45 => ?_) (fun h_45 => ?_)
          · refine lv_iinc (v := nI r + (-1)) (lv' := [(5, .int (nI r + (-1))), (6, .ref (ad 25 r)), (0, .ref (ad 5 0)), (1, .int (nI 0)), (3, .int (nI lf)), (4, .int z)]) hx hb dX3_promiseLatest_65 hl (k := 5) rfl rfl (by decide) rfl (fun ls hl => ?_)
            refine lv_goto (tgt := 14) hx hb dX3_promiseLatest_68 (by decide) ?_
            exact ih (nI lf) lf z Pm (by omega) rfl (by omega) (fun j => (hP j).trans (by rw [k_sel_n (th := s_th t) (pd := (fun j => k_pd 0 (o_on t j))) (i := r) (fun q => q.2 h_45)])) _ _ hW hS _ (lv_sub hl [2, 3, 4, 5, 0] rfl)
          · refine lv_aload hx hb dX3_promiseLatest_48 (lv_at hl 0 rfl) ?_
            refine lv_iload_n hx hb dX3_promiseLatest_50 rfl (lv_at hl 2 rfl) ?_
            refine k_ci (va_runV (As := [.int (nI 0)]) (rest := []) ⟨hx, hb, hml, hown, hts⟩ (c_X0_periodOf_0 l hlt g ad (set_o_pm t Pm) r (hwf _ hb_30) (hon _ (hwf _ hb_30))) (cwV 1 hts gX3_promiseLatest_X0_periodOf rfl rfl rfl (by decide +kernel) ⟨(Nat.le_of_ble_eq_true rfl), (Nat.le_of_ble_eq_true rfl)⟩) ⟨k_blind, k_recv hK hW (kc_25 g ad (set_o_pm t Pm) (hwf _ hb_30)) rfl, fun U hU hw => ⟨rfl, k_I.of hK hZ hN hS hW hU hw⟩⟩ rfl rfl hl.1 rfl (lv_room (Nat.le_of_ble_eq_true rfl)) dX3_promiseLatest_51 ⟨(Nat.le_of_ble_eq_true rfl), (Nat.le_of_ble_eq_true rfl)⟩) hS (fun r u H locs hpo hW hS => ?_)
            obtain ⟨hr9, hu9⟩ := hpo; replace hu9 := hu9.symm; subst hu9; replace hr9 := hr9.symm; subst hr9
            refine lv_istore (lv' := [(4, .int (nI (k_pd 0 (o_on t r)))), (6, .ref (ad 25 r)), (0, .ref (ad 5 0)), (1, .int (nI 0)), (3, .int (nI lf)), (5, .int (nI r))]) hx hb dX3_promiseLatest_54 hl (by decide) rfl (fun ls hl => ?_)
            refine lv_aload hx hb dX3_promiseLatest_56 (lv_at hl 1 rfl) ?_
            refine lv_iconst (v := nI 1) hx hb dX3_promiseLatest_58 (by decide) ?_
            refine k_putN (host := RX4) (index := 34) (own := RX3) (C := RX0) (T := TX0) (N := 11) hx hb hts hinX0 tyX0 tyX0_ok nmX0 hown hK hW hS (kc_25 g ad (set_o_pm t Pm) (hwf _ hb_30)) rfl 8 (by decide) (by decide +kernel) rfl rfl (ty := tyX0 8) (v := .int (nI 1)) (tyX0_ok 8 (by decide)) rfl rfl (Nat.le_of_ble_eq_true rfl) dX3_promiseLatest_59 (fun H locs hW hS => ?_)
            have hW : k_H g ad (set_o_pm t (va_up Pm r true)) H := kt_o_pm (t := set_o_pm t Pm) r (hwf _ hb_30) true rfl hW
            refine lv_iinc (v := nI lf + (-1)) (lv' := [(3, .int (nI lf + (-1))), (4, .int (nI (k_pd 0 (o_on t r)))), (6, .ref (ad 25 r)), (0, .ref (ad 5 0)), (1, .int (nI 0)), (5, .int (nI r))]) hx hb dX3_promiseLatest_62 hl (k := 4) rfl rfl (by decide) rfl (fun ls hl => ?_)
            refine lv_iinc (v := nI r + (-1)) (lv' := [(5, .int (nI r + (-1))), (3, .int (nI lf + (-1))), (4, .int (nI (k_pd 0 (o_on t r)))), (6, .ref (ad 25 r)), (0, .ref (ad 5 0)), (1, .int (nI 0))]) hx hb dX3_promiseLatest_65 hl (k := 5) rfl rfl (by decide) rfl (fun ls hl => ?_)
            refine lv_goto (tgt := 14) hx hb dX3_promiseLatest_68 (by decide) ?_
            exact ih (nI lf + (-1)) (lf - 1) (nI (k_pd 0 (o_on t r))) (va_up Pm r true) (by omega) (sb_m1 h_20) (by omega) (k_sel_by hP h_20 hb_30 (fun q => h_45 q)) _ _ hW hS _ (lv_sub hl [4, 5, 1, 2, 0] rfl)
        · refine k_tov (y := .null) (congrArg va_rf (if_neg (fun q => absurd (hb_30.symm.trans q) (by decide)))) ?_
          refine lv_astoreN (lv' := [(6, .null), (0, .ref (ad 5 0)), (1, .int (nI 0)), (3, .int (nI lf)), (4, .int z), (5, .int (nI r))]) hx hb dX3_promiseLatest_30 hl (by decide) rfl (fun ls hl => ?_)
          refine lv_aloadN hx hb dX3_promiseLatest_32 (lv_at hl 0 rfl) ?_
          refine lv_ifnullN (tgt := 65) hx hb dX3_promiseLatest_34 (by decide) ?_
          refine lv_iinc (v := nI r + (-1)) (lv' := [(5, .int (nI r + (-1))), (6, .null), (0, .ref (ad 5 0)), (1, .int (nI 0)), (3, .int (nI lf)), (4, .int z)]) hx hb dX3_promiseLatest_65 hl (k := 5) rfl rfl (by decide) rfl (fun ls hl => ?_)
          refine lv_goto (tgt := 14) hx hb dX3_promiseLatest_68 (by decide) ?_
          exact ih (nI lf) lf z Pm (by omega) rfl (by omega) (fun j => (hP j).trans (by rw [k_sel_n (th := s_th t) (pd := (fun j => k_pd 0 (o_on t j))) (i := r) (fun q => by have h9 := hb_30.symm.trans q.1; cases h9)])) _ _ hW hS _ (lv_sub hl [2, 3, 4, 5, 0] rfl)
  exact hloop_14 60 (nI w) w (-1) (o_pm t) (Nat.le_refl _) rfl hw (fun j => rfl) _ _ hW hS _ (lv_sub hl [3, 4, 2, 1, 0] rfl)
set_option maxRecDepth 100000 in
set_option maxHeartbeats 4000000 in
theorem c_X3_promiseLatest_1 (l : Launch) (hlt : l.stackTraces = false) (g : k_g) (ad : k_AD) (t : k_T) (w : Nat) (hw : w ≤ 30) (hwf : ∀ j, s_th t j = true → j < o_n t) (hon : ∀ j, j < o_n t → o_on t j ≤ 360) : Met l yX3_promiseLatest wsX3_promiseLatest rm_X3_promiseLatest (va_Pc [.ref (ad 5 0), .int (nI 1), .int (nI w)] (k_I g (k_ct g ad t) ad)) (va_Qv (fun u => u = set_o_pm t (fun j => (o_pm t) j || k_sel (s_th t) (fun j => k_pd 1 (o_on t j)) 60 w (-1) j)) (fun u U => k_H g ad u U.heap) (k_A g)) 0 0 (k_A g) := by
  refine k_met (cc := cX3_promiseLatest) (maxL := 7) (ret := none) (by decide) rfl (Nat.le_of_ble_eq_true rfl) (fun p e s m args below meth c Q ls hQ hx hb hr hml hts hown hlk hin hK hZ hN hW hS hl => ?_)
  have hown : s.vm.findClass RX3 = some m.cls := hown
  have hW : k_H g ad t s.heap := hW
  have hl : lv_has ls 7 [(0, .ref (ad 5 0)), (1, .int (nI 1)), (2, .int (nI w))] := hl
  have hinX0 : ∀ w ∈ wsX00, w ∈ wsX3_promiseLatest := by decide +kernel
  have hinX3 : ∀ w ∈ wsX30, w ∈ wsX3_promiseLatest := by decide +kernel
  refine lv_iload_n hx hb dX3_promiseLatest_0 rfl (lv_at hl 2 rfl) ?_
  refine lv_istore_n (lv' := [(3, .int (nI w)), (0, .ref (ad 5 0)), (1, .int (nI 1)), (2, .int (nI w))]) hx hb dX3_promiseLatest_1 rfl hl (by decide) rfl (fun ls hl => ?_)
  refine lv_iconst (v := (-1)) hx hb dX3_promiseLatest_2 (by decide) ?_
  refine lv_istore (lv' := [(4, .int (-1)), (3, .int (nI w)), (0, .ref (ad 5 0)), (1, .int (nI 1)), (2, .int (nI w))]) hx hb dX3_promiseLatest_3 hl (by decide) rfl (fun ls hl => ?_)
  refine lv_aload_n hx hb dX3_promiseLatest_5 rfl (lv_at hl 2 rfl) ?_
  refine k_get (own := RX3) (C := RX3) (T := TX3) (N := 5) hx hb hts hinX3 hown hK hW (kc_5 g ad t) rfl 0 (by decide) (hts (.fieldLink RX3 11 "DrillVault$Shelf" "rows" "[LDrillVault$Copy;") (by decide +kernel)) rfl (v := .ref (ad 6 0)) rfl dX3_promiseLatest_6 ?_
  refine k_alen hx hb hK hW 3 rfl (kc_6 g ad t) (v := nI 60) rfl dX3_promiseLatest_9 ?_
  refine lv_iconst (v := nI 1) hx hb dX3_promiseLatest_10 (by decide) ?_
  refine lv_isub hx hb dX3_promiseLatest_11 ?_
  refine k_toi (k_m1 _) ?_
  refine lv_istore (lv' := [(5, .int (nI 60 + (-1))), (4, .int (-1)), (3, .int (nI w)), (0, .ref (ad 5 0)), (1, .int (nI 1)), (2, .int (nI w))]) hx hb dX3_promiseLatest_12 hl (by decide) rfl (fun ls hl => ?_)
  have hloop_14 : ∀ (r : Nat) (y : Int32) (lf : Nat) (z : Int32) (Pm : Nat → Bool), (r ≤ 60) → (y = nI lf) → (lf ≤ 30) → (∀ j, (fun j => o_pm t j || k_sel (s_th t) (fun j => k_pd 1 (o_on t j)) 60 w (-1) j) j = (Pm j || k_sel (s_th t) (fun j => k_pd 1 (o_on t j)) r lf z j)) → ∀ (H : Heap) (locs : List Loc), k_H g ad (set_o_pm t Pm) H → va_S (k_A g) s.heap H locs → ∀ (ls : Array Slot), lv_has ls 7 [(0, .ref (ad 5 0)), (1, .int (nI 1)), (3, .int y), (4, .int z), (5, .int (nI r + (-1)))] → W p l e rm_X3_promiseLatest s m args below meth c H locs 0 0 Q (F0 m 14 ls []) := by
    intro r
    induction r with
    | zero =>
      intro y lf z Pm hr60 hy hlf hP H locs hW hS ls hl
      refine lv_iload hx hb dX3_promiseLatest_14 (lv_at hl 4 rfl) ?_
      refine lv_if_lt (tgt := 71) hx hb dX3_promiseLatest_16 (by decide) (fun h_16 => ?_) (fun h_16 => absurd k_n0 h_16)
      exact k_rv hQ hx hb hr hlk hS hW (by rw [show Pm = (fun j => o_pm t j || k_sel (s_th t) (fun j => k_pd 1 (o_on t j)) 60 w (-1) j) from funext fun j => ((hP j).trans (Bool.or_false _)).symm]) (Nat.le_of_ble_eq_true rfl) (Nat.le_of_ble_eq_true rfl) dX3_promiseLatest_71
    | succ r ih =>
      intro y lf z Pm hr60 hy hlf hP H locs hW hS ls hl
      rw [k_dec] at hl
      subst hy
      refine lv_iload hx hb dX3_promiseLatest_14 (lv_at hl 4 rfl) ?_
      refine k_if_lt (tgt := 71) hx hb (by omega) dX3_promiseLatest_16 (by decide) ?_
      refine lv_iload_n hx hb dX3_promiseLatest_19 rfl (lv_at hl 2 rfl) ?_
      refine k_if_le (tgt := 71) hx hb (by omega) dX3_promiseLatest_20 (by decide) (fun h_20 => ?_) (fun h_20 => ?_)
      · exact k_rv hQ hx hb hr hlk hS hW (by rw [show Pm = (fun j => o_pm t j || k_sel (s_th t) (fun j => k_pd 1 (o_on t j)) 60 w (-1) j) from funext fun j => ((hP j).trans (by rw [h_20, k_sel_0, Bool.or_false])).symm]) (Nat.le_of_ble_eq_true rfl) (Nat.le_of_ble_eq_true rfl) dX3_promiseLatest_71
      · refine lv_aload_n hx hb dX3_promiseLatest_23 rfl (lv_at hl 0 rfl) ?_
        refine k_get (own := RX3) (C := RX3) (T := TX3) (N := 5) hx hb hts hinX3 hown hK hW (kc_5 g ad (set_o_pm t Pm)) rfl 0 (by decide) (hts (.fieldLink RX3 11 "DrillVault$Shelf" "rows" "[LDrillVault$Copy;") (by decide +kernel)) rfl (v := .ref (ad 6 0)) rfl dX3_promiseLatest_24 ?_
        refine lv_iload hx hb dX3_promiseLatest_27 (lv_at hl 4 rfl) ?_
        refine k_aald hx hb hK hW (kc_6 g ad (set_o_pm t Pm)) r rfl (by omega) (by decide) dX3_promiseLatest_29 ?_
        rcases Bool.eq_false_or_eq_true (s_th t r) with hb_30 | hb_30
        · refine k_tov (y := .ref (ad 25 r)) (congrArg va_rf (if_pos hb_30)) ?_
          refine lv_astore (lv' := [(6, .ref (ad 25 r)), (0, .ref (ad 5 0)), (1, .int (nI 1)), (3, .int (nI lf)), (4, .int z), (5, .int (nI r))]) hx hb dX3_promiseLatest_30 hl (by decide) rfl (fun ls hl => ?_)
          refine lv_aload hx hb dX3_promiseLatest_32 (lv_at hl 0 rfl) ?_
          refine lv_ifnull hx hb dX3_promiseLatest_34 ?_
          refine lv_aload hx hb dX3_promiseLatest_37 (lv_at hl 0 rfl) ?_
          refine lv_iload_n hx hb dX3_promiseLatest_39 rfl (lv_at hl 2 rfl) ?_
          refine k_ci (va_runV (As := [.int (nI 1)]) (rest := []) ⟨hx, hb, hml, hown, hts⟩ (c_X0_periodOf_1 l hlt g ad (set_o_pm t Pm) r (hwf _ hb_30) (hon _ (hwf _ hb_30))) (cwV 1 hts gX3_promiseLatest_X0_periodOf rfl rfl rfl (by decide +kernel) ⟨(Nat.le_of_ble_eq_true rfl), (Nat.le_of_ble_eq_true rfl)⟩) ⟨k_blind, k_recv hK hW (kc_25 g ad (set_o_pm t Pm) (hwf _ hb_30)) rfl, fun U hU hw => ⟨rfl, k_I.of hK hZ hN hS hW hU hw⟩⟩ rfl rfl hl.1 rfl (lv_room (Nat.le_of_ble_eq_true rfl)) dX3_promiseLatest_40 ⟨(Nat.le_of_ble_eq_true rfl), (Nat.le_of_ble_eq_true rfl)⟩) hS (fun r u H locs hpo hW hS => ?_)
          obtain ⟨hr9, hu9⟩ := hpo; replace hu9 := hu9.symm; subst hu9; replace hr9 := hr9.symm; subst hr9
          refine lv_iload hx hb dX3_promiseLatest_43 (lv_at hl 4 rfl) ?_
          refine lv_icmp_eq (tgt := 65) hx hb dX3_promiseLatest_45 (by decide) (fun h_45 => ?_) (fun h_45 => ?_)
          · refine lv_iinc (v := nI r + (-1)) (lv' := [(5, .int (nI r + (-1))), (6, .ref (ad 25 r)), (0, .ref (ad 5 0)), (1, .int (nI 1)), (3, .int (nI lf)), (4, .int z)]) hx hb dX3_promiseLatest_65 hl (k := 5) rfl rfl (by decide) rfl (fun ls hl => ?_)
            refine lv_goto (tgt := 14) hx hb dX3_promiseLatest_68 (by decide) ?_
            exact ih (nI lf) lf z Pm (by omega) rfl (by omega) (fun j => (hP j).trans (by rw [k_sel_n (th := s_th t) (pd := (fun j => k_pd 1 (o_on t j))) (i := r) (fun q => q.2 h_45)])) _ _ hW hS _ (lv_sub hl [2, 3, 4, 5, 0] rfl)
          · refine lv_aload hx hb dX3_promiseLatest_48 (lv_at hl 0 rfl) ?_
            refine lv_iload_n hx hb dX3_promiseLatest_50 rfl (lv_at hl 2 rfl) ?_
            refine k_ci (va_runV (As := [.int (nI 1)]) (rest := []) ⟨hx, hb, hml, hown, hts⟩ (c_X0_periodOf_1 l hlt g ad (set_o_pm t Pm) r (hwf _ hb_30) (hon _ (hwf _ hb_30))) (cwV 1 hts gX3_promiseLatest_X0_periodOf rfl rfl rfl (by decide +kernel) ⟨(Nat.le_of_ble_eq_true rfl), (Nat.le_of_ble_eq_true rfl)⟩) ⟨k_blind, k_recv hK hW (kc_25 g ad (set_o_pm t Pm) (hwf _ hb_30)) rfl, fun U hU hw => ⟨rfl, k_I.of hK hZ hN hS hW hU hw⟩⟩ rfl rfl hl.1 rfl (lv_room (Nat.le_of_ble_eq_true rfl)) dX3_promiseLatest_51 ⟨(Nat.le_of_ble_eq_true rfl), (Nat.le_of_ble_eq_true rfl)⟩) hS (fun r u H locs hpo hW hS => ?_)
            obtain ⟨hr9, hu9⟩ := hpo; replace hu9 := hu9.symm; subst hu9; replace hr9 := hr9.symm; subst hr9
            refine lv_istore (lv' := [(4, .int (nI (k_pd 1 (o_on t r)))), (6, .ref (ad 25 r)), (0, .ref (ad 5 0)), (1, .int (nI 1)), (3, .int (nI lf)), (5, .int (nI r))]) hx hb dX3_promiseLatest_54 hl (by decide) rfl (fun ls hl => ?_)
            refine lv_aload hx hb dX3_promiseLatest_56 (lv_at hl 1 rfl) ?_
            refine lv_iconst (v := nI 1) hx hb dX3_promiseLatest_58 (by decide) ?_
            refine k_putN (host := RX4) (index := 34) (own := RX3) (C := RX0) (T := TX0) (N := 11) hx hb hts hinX0 tyX0 tyX0_ok nmX0 hown hK hW hS (kc_25 g ad (set_o_pm t Pm) (hwf _ hb_30)) rfl 8 (by decide) (by decide +kernel) rfl rfl (ty := tyX0 8) (v := .int (nI 1)) (tyX0_ok 8 (by decide)) rfl rfl (Nat.le_of_ble_eq_true rfl) dX3_promiseLatest_59 (fun H locs hW hS => ?_)
            have hW : k_H g ad (set_o_pm t (va_up Pm r true)) H := kt_o_pm (t := set_o_pm t Pm) r (hwf _ hb_30) true rfl hW
            refine lv_iinc (v := nI lf + (-1)) (lv' := [(3, .int (nI lf + (-1))), (4, .int (nI (k_pd 1 (o_on t r)))), (6, .ref (ad 25 r)), (0, .ref (ad 5 0)), (1, .int (nI 1)), (5, .int (nI r))]) hx hb dX3_promiseLatest_62 hl (k := 4) rfl rfl (by decide) rfl (fun ls hl => ?_)
            refine lv_iinc (v := nI r + (-1)) (lv' := [(5, .int (nI r + (-1))), (3, .int (nI lf + (-1))), (4, .int (nI (k_pd 1 (o_on t r)))), (6, .ref (ad 25 r)), (0, .ref (ad 5 0)), (1, .int (nI 1))]) hx hb dX3_promiseLatest_65 hl (k := 5) rfl rfl (by decide) rfl (fun ls hl => ?_)
            refine lv_goto (tgt := 14) hx hb dX3_promiseLatest_68 (by decide) ?_
            exact ih (nI lf + (-1)) (lf - 1) (nI (k_pd 1 (o_on t r))) (va_up Pm r true) (by omega) (sb_m1 h_20) (by omega) (k_sel_by hP h_20 hb_30 (fun q => h_45 q)) _ _ hW hS _ (lv_sub hl [4, 5, 1, 2, 0] rfl)
        · refine k_tov (y := .null) (congrArg va_rf (if_neg (fun q => absurd (hb_30.symm.trans q) (by decide)))) ?_
          refine lv_astoreN (lv' := [(6, .null), (0, .ref (ad 5 0)), (1, .int (nI 1)), (3, .int (nI lf)), (4, .int z), (5, .int (nI r))]) hx hb dX3_promiseLatest_30 hl (by decide) rfl (fun ls hl => ?_)
          refine lv_aloadN hx hb dX3_promiseLatest_32 (lv_at hl 0 rfl) ?_
          refine lv_ifnullN (tgt := 65) hx hb dX3_promiseLatest_34 (by decide) ?_
          refine lv_iinc (v := nI r + (-1)) (lv' := [(5, .int (nI r + (-1))), (6, .null), (0, .ref (ad 5 0)), (1, .int (nI 1)), (3, .int (nI lf)), (4, .int z)]) hx hb dX3_promiseLatest_65 hl (k := 5) rfl rfl (by decide) rfl (fun ls hl => ?_)
          refine lv_goto (tgt := 14) hx hb dX3_promiseLatest_68 (by decide) ?_
          exact ih (nI lf) lf z Pm (by omega) rfl (by omega) (fun j => (hP j).trans (by rw [k_sel_n (th := s_th t) (pd := (fun j => k_pd 1 (o_on t j))) (i := r) (fun q => by have h9 := hb_30.symm.trans q.1; cases h9)])) _ _ hW hS _ (lv_sub hl [2, 3, 4, 5, 0] rfl)
  exact hloop_14 60 (nI w) w (-1) (o_pm t) (Nat.le_refl _) rfl hw (fun j => rfl) _ _ hW hS _ (lv_sub hl [3, 4, 2, 1, 0] rfl)
set_option maxRecDepth 100000 in
set_option maxHeartbeats 4000000 in
theorem c_X3_promiseLatest_2 (l : Launch) (hlt : l.stackTraces = false) (g : k_g) (ad : k_AD) (t : k_T) (w : Nat) (hw : w ≤ 30) (hwf : ∀ j, s_th t j = true → j < o_n t) (hon : ∀ j, j < o_n t → o_on t j ≤ 360) : Met l yX3_promiseLatest wsX3_promiseLatest rm_X3_promiseLatest (va_Pc [.ref (ad 5 0), .int (nI 2), .int (nI w)] (k_I g (k_ct g ad t) ad)) (va_Qv (fun u => u = set_o_pm t (fun j => (o_pm t) j || k_sel (s_th t) (fun j => k_pd 2 (o_on t j)) 60 w (-1) j)) (fun u U => k_H g ad u U.heap) (k_A g)) 0 0 (k_A g) := by
  refine k_met (cc := cX3_promiseLatest) (maxL := 7) (ret := none) (by decide) rfl (Nat.le_of_ble_eq_true rfl) (fun p e s m args below meth c Q ls hQ hx hb hr hml hts hown hlk hin hK hZ hN hW hS hl => ?_)
  have hown : s.vm.findClass RX3 = some m.cls := hown
  have hW : k_H g ad t s.heap := hW
  have hl : lv_has ls 7 [(0, .ref (ad 5 0)), (1, .int (nI 2)), (2, .int (nI w))] := hl
  have hinX0 : ∀ w ∈ wsX00, w ∈ wsX3_promiseLatest := by decide +kernel
  have hinX3 : ∀ w ∈ wsX30, w ∈ wsX3_promiseLatest := by decide +kernel
  refine lv_iload_n hx hb dX3_promiseLatest_0 rfl (lv_at hl 2 rfl) ?_
  refine lv_istore_n (lv' := [(3, .int (nI w)), (0, .ref (ad 5 0)), (1, .int (nI 2)), (2, .int (nI w))]) hx hb dX3_promiseLatest_1 rfl hl (by decide) rfl (fun ls hl => ?_)
  refine lv_iconst (v := (-1)) hx hb dX3_promiseLatest_2 (by decide) ?_
  refine lv_istore (lv' := [(4, .int (-1)), (3, .int (nI w)), (0, .ref (ad 5 0)), (1, .int (nI 2)), (2, .int (nI w))]) hx hb dX3_promiseLatest_3 hl (by decide) rfl (fun ls hl => ?_)
  refine lv_aload_n hx hb dX3_promiseLatest_5 rfl (lv_at hl 2 rfl) ?_
  refine k_get (own := RX3) (C := RX3) (T := TX3) (N := 5) hx hb hts hinX3 hown hK hW (kc_5 g ad t) rfl 0 (by decide) (hts (.fieldLink RX3 11 "DrillVault$Shelf" "rows" "[LDrillVault$Copy;") (by decide +kernel)) rfl (v := .ref (ad 6 0)) rfl dX3_promiseLatest_6 ?_
  refine k_alen hx hb hK hW 3 rfl (kc_6 g ad t) (v := nI 60) rfl dX3_promiseLatest_9 ?_
  refine lv_iconst (v := nI 1) hx hb dX3_promiseLatest_10 (by decide) ?_
  refine lv_isub hx hb dX3_promiseLatest_11 ?_
  refine k_toi (k_m1 _) ?_
  refine lv_istore (lv' := [(5, .int (nI 60 + (-1))), (4, .int (-1)), (3, .int (nI w)), (0, .ref (ad 5 0)), (1, .int (nI 2)), (2, .int (nI w))]) hx hb dX3_promiseLatest_12 hl (by decide) rfl (fun ls hl => ?_)
  have hloop_14 : ∀ (r : Nat) (y : Int32) (lf : Nat) (z : Int32) (Pm : Nat → Bool), (r ≤ 60) → (y = nI lf) → (lf ≤ 30) → (∀ j, (fun j => o_pm t j || k_sel (s_th t) (fun j => k_pd 2 (o_on t j)) 60 w (-1) j) j = (Pm j || k_sel (s_th t) (fun j => k_pd 2 (o_on t j)) r lf z j)) → ∀ (H : Heap) (locs : List Loc), k_H g ad (set_o_pm t Pm) H → va_S (k_A g) s.heap H locs → ∀ (ls : Array Slot), lv_has ls 7 [(0, .ref (ad 5 0)), (1, .int (nI 2)), (3, .int y), (4, .int z), (5, .int (nI r + (-1)))] → W p l e rm_X3_promiseLatest s m args below meth c H locs 0 0 Q (F0 m 14 ls []) := by
    intro r
    induction r with
    | zero =>
      intro y lf z Pm hr60 hy hlf hP H locs hW hS ls hl
      refine lv_iload hx hb dX3_promiseLatest_14 (lv_at hl 4 rfl) ?_
      refine lv_if_lt (tgt := 71) hx hb dX3_promiseLatest_16 (by decide) (fun h_16 => ?_) (fun h_16 => absurd k_n0 h_16)
      exact k_rv hQ hx hb hr hlk hS hW (by rw [show Pm = (fun j => o_pm t j || k_sel (s_th t) (fun j => k_pd 2 (o_on t j)) 60 w (-1) j) from funext fun j => ((hP j).trans (Bool.or_false _)).symm]) (Nat.le_of_ble_eq_true rfl) (Nat.le_of_ble_eq_true rfl) dX3_promiseLatest_71
    | succ r ih =>
      intro y lf z Pm hr60 hy hlf hP H locs hW hS ls hl
      rw [k_dec] at hl
      subst hy
      refine lv_iload hx hb dX3_promiseLatest_14 (lv_at hl 4 rfl) ?_
      refine k_if_lt (tgt := 71) hx hb (by omega) dX3_promiseLatest_16 (by decide) ?_
      refine lv_iload_n hx hb dX3_promiseLatest_19 rfl (lv_at hl 2 rfl) ?_
      refine k_if_le (tgt := 71) hx hb (by omega) dX3_promiseLatest_20 (by decide) (fun h_20 => ?_) (fun h_20 => ?_)
      · exact k_rv hQ hx hb hr hlk hS hW (by rw [show Pm = (fun j => o_pm t j || k_sel (s_th t) (fun j => k_pd 2 (o_on t j)) 60 w (-1) j) from funext fun j => ((hP j).trans (by rw [h_20, k_sel_0, Bool.or_false])).symm]) (Nat.le_of_ble_eq_true rfl) (Nat.le_of_ble_eq_true rfl) dX3_promiseLatest_71
      · refine lv_aload_n hx hb dX3_promiseLatest_23 rfl (lv_at hl 0 rfl) ?_
        refine k_get (own := RX3) (C := RX3) (T := TX3) (N := 5) hx hb hts hinX3 hown hK hW (kc_5 g ad (set_o_pm t Pm)) rfl 0 (by decide) (hts (.fieldLink RX3 11 "DrillVault$Shelf" "rows" "[LDrillVault$Copy;") (by decide +kernel)) rfl (v := .ref (ad 6 0)) rfl dX3_promiseLatest_24 ?_
        refine lv_iload hx hb dX3_promiseLatest_27 (lv_at hl 4 rfl) ?_
        refine k_aald hx hb hK hW (kc_6 g ad (set_o_pm t Pm)) r rfl (by omega) (by decide) dX3_promiseLatest_29 ?_
        rcases Bool.eq_false_or_eq_true (s_th t r) with hb_30 | hb_30
        · refine k_tov (y := .ref (ad 25 r)) (congrArg va_rf (if_pos hb_30)) ?_
          refine lv_astore (lv' := [(6, .ref (ad 25 r)), (0, .ref (ad 5 0)), (1, .int (nI 2)), (3, .int (nI lf)), (4, .int z), (5, .int (nI r))]) hx hb dX3_promiseLatest_30 hl (by decide) rfl (fun ls hl => ?_)
          refine lv_aload hx hb dX3_promiseLatest_32 (lv_at hl 0 rfl) ?_
          refine lv_ifnull hx hb dX3_promiseLatest_34 ?_
          refine lv_aload hx hb dX3_promiseLatest_37 (lv_at hl 0 rfl) ?_
          refine lv_iload_n hx hb dX3_promiseLatest_39 rfl (lv_at hl 2 rfl) ?_
          refine k_ci (va_runV (As := [.int (nI 2)]) (rest := []) ⟨hx, hb, hml, hown, hts⟩ (c_X0_periodOf_2 l hlt g ad (set_o_pm t Pm) r (hwf _ hb_30) (hon _ (hwf _ hb_30))) (cwV 1 hts gX3_promiseLatest_X0_periodOf rfl rfl rfl (by decide +kernel) ⟨(Nat.le_of_ble_eq_true rfl), (Nat.le_of_ble_eq_true rfl)⟩) ⟨k_blind, k_recv hK hW (kc_25 g ad (set_o_pm t Pm) (hwf _ hb_30)) rfl, fun U hU hw => ⟨rfl, k_I.of hK hZ hN hS hW hU hw⟩⟩ rfl rfl hl.1 rfl (lv_room (Nat.le_of_ble_eq_true rfl)) dX3_promiseLatest_40 ⟨(Nat.le_of_ble_eq_true rfl), (Nat.le_of_ble_eq_true rfl)⟩) hS (fun r u H locs hpo hW hS => ?_)
          obtain ⟨hr9, hu9⟩ := hpo; replace hu9 := hu9.symm; subst hu9; replace hr9 := hr9.symm; subst hr9
          refine lv_iload hx hb dX3_promiseLatest_43 (lv_at hl 4 rfl) ?_
          refine lv_icmp_eq (tgt := 65) hx hb dX3_promiseLatest_45 (by decide) (fun h_45 => ?_) (fun h_45 => ?_)
          · refine lv_iinc (v := nI r + (-1)) (lv' := [(5, .int (nI r + (-1))), (6, .ref (ad 25 r)), (0, .ref (ad 5 0)), (1, .int (nI 2)), (3, .int (nI lf)), (4, .int z)]) hx hb dX3_promiseLatest_65 hl (k := 5) rfl rfl (by decide) rfl (fun ls hl => ?_)
            refine lv_goto (tgt := 14) hx hb dX3_promiseLatest_68 (by decide) ?_
            exact ih (nI lf) lf z Pm (by omega) rfl (by omega) (fun j => (hP j).trans (by rw [k_sel_n (th := s_th t) (pd := (fun j => k_pd 2 (o_on t j))) (i := r) (fun q => q.2 h_45)])) _ _ hW hS _ (lv_sub hl [2, 3, 4, 5, 0] rfl)
          · refine lv_aload hx hb dX3_promiseLatest_48 (lv_at hl 0 rfl) ?_
            refine lv_iload_n hx hb dX3_promiseLatest_50 rfl (lv_at hl 2 rfl) ?_
            refine k_ci (va_runV (As := [.int (nI 2)]) (rest := []) ⟨hx, hb, hml, hown, hts⟩ (c_X0_periodOf_2 l hlt g ad (set_o_pm t Pm) r (hwf _ hb_30) (hon _ (hwf _ hb_30))) (cwV 1 hts gX3_promiseLatest_X0_periodOf rfl rfl rfl (by decide +kernel) ⟨(Nat.le_of_ble_eq_true rfl), (Nat.le_of_ble_eq_true rfl)⟩) ⟨k_blind, k_recv hK hW (kc_25 g ad (set_o_pm t Pm) (hwf _ hb_30)) rfl, fun U hU hw => ⟨rfl, k_I.of hK hZ hN hS hW hU hw⟩⟩ rfl rfl hl.1 rfl (lv_room (Nat.le_of_ble_eq_true rfl)) dX3_promiseLatest_51 ⟨(Nat.le_of_ble_eq_true rfl), (Nat.le_of_ble_eq_true rfl)⟩) hS (fun r u H locs hpo hW hS => ?_)
            obtain ⟨hr9, hu9⟩ := hpo; replace hu9 := hu9.symm; subst hu9; replace hr9 := hr9.symm; subst hr9
            refine lv_istore (lv' := [(4, .int (nI (k_pd 2 (o_on t r)))), (6, .ref (ad 25 r)), (0, .ref (ad 5 0)), (1, .int (nI 2)), (3, .int (nI lf)), (5, .int (nI r))]) hx hb dX3_promiseLatest_54 hl (by decide) rfl (fun ls hl => ?_)
            refine lv_aload hx hb dX3_promiseLatest_56 (lv_at hl 1 rfl) ?_
            refine lv_iconst (v := nI 1) hx hb dX3_promiseLatest_58 (by decide) ?_
            refine k_putN (host := RX4) (index := 34) (own := RX3) (C := RX0) (T := TX0) (N := 11) hx hb hts hinX0 tyX0 tyX0_ok nmX0 hown hK hW hS (kc_25 g ad (set_o_pm t Pm) (hwf _ hb_30)) rfl 8 (by decide) (by decide +kernel) rfl rfl (ty := tyX0 8) (v := .int (nI 1)) (tyX0_ok 8 (by decide)) rfl rfl (Nat.le_of_ble_eq_true rfl) dX3_promiseLatest_59 (fun H locs hW hS => ?_)
            have hW : k_H g ad (set_o_pm t (va_up Pm r true)) H := kt_o_pm (t := set_o_pm t Pm) r (hwf _ hb_30) true rfl hW
            refine lv_iinc (v := nI lf + (-1)) (lv' := [(3, .int (nI lf + (-1))), (4, .int (nI (k_pd 2 (o_on t r)))), (6, .ref (ad 25 r)), (0, .ref (ad 5 0)), (1, .int (nI 2)), (5, .int (nI r))]) hx hb dX3_promiseLatest_62 hl (k := 4) rfl rfl (by decide) rfl (fun ls hl => ?_)
            refine lv_iinc (v := nI r + (-1)) (lv' := [(5, .int (nI r + (-1))), (3, .int (nI lf + (-1))), (4, .int (nI (k_pd 2 (o_on t r)))), (6, .ref (ad 25 r)), (0, .ref (ad 5 0)), (1, .int (nI 2))]) hx hb dX3_promiseLatest_65 hl (k := 5) rfl rfl (by decide) rfl (fun ls hl => ?_)
            refine lv_goto (tgt := 14) hx hb dX3_promiseLatest_68 (by decide) ?_
            exact ih (nI lf + (-1)) (lf - 1) (nI (k_pd 2 (o_on t r))) (va_up Pm r true) (by omega) (sb_m1 h_20) (by omega) (k_sel_by hP h_20 hb_30 (fun q => h_45 q)) _ _ hW hS _ (lv_sub hl [4, 5, 1, 2, 0] rfl)
        · refine k_tov (y := .null) (congrArg va_rf (if_neg (fun q => absurd (hb_30.symm.trans q) (by decide)))) ?_
          refine lv_astoreN (lv' := [(6, .null), (0, .ref (ad 5 0)), (1, .int (nI 2)), (3, .int (nI lf)), (4, .int z), (5, .int (nI r))]) hx hb dX3_promiseLatest_30 hl (by decide) rfl (fun ls hl => ?_)
          refine lv_aloadN hx hb dX3_promiseLatest_32 (lv_at hl 0 rfl) ?_
          refine lv_ifnullN (tgt := 65) hx hb dX3_promiseLatest_34 (by decide) ?_
          refine lv_iinc (v := nI r + (-1)) (lv' := [(5, .int (nI r + (-1))), (6, .null), (0, .ref (ad 5 0)), (1, .int (nI 2)), (3, .int (nI lf)), (4, .int z)]) hx hb dX3_promiseLatest_65 hl (k := 5) rfl rfl (by decide) rfl (fun ls hl => ?_)
          refine lv_goto (tgt := 14) hx hb dX3_promiseLatest_68 (by decide) ?_
          exact ih (nI lf) lf z Pm (by omega) rfl (by omega) (fun j => (hP j).trans (by rw [k_sel_n (th := s_th t) (pd := (fun j => k_pd 2 (o_on t j))) (i := r) (fun q => by have h9 := hb_30.symm.trans q.1; cases h9)])) _ _ hW hS _ (lv_sub hl [2, 3, 4, 5, 0] rfl)
  exact hloop_14 60 (nI w) w (-1) (o_pm t) (Nat.le_refl _) rfl hw (fun j => rfl) _ _ hW hS _ (lv_sub hl [3, 4, 2, 1, 0] rfl)
abbrev rm_X3_markGenerations : Room := { frames := 2, cells := 0, slots := 0, locals := 47 }
set_option maxRecDepth 100000 in
set_option maxHeartbeats 4000000 in
theorem c_X3_markGenerations (l : Launch) (hlt : l.stackTraces = false) (g : k_g) (ad : k_AD) (t : k_T) (hwf : ∀ j, s_th t j = true → j < o_n t) (hbs : ∀ k b, k < o_n t → o_b t k = some b → b < o_n t ∧ b < k) (hth : ∀ j b, s_th t j = true → o_b t j = some b → s_th t b = true) (hn60 : o_n t ≤ 60) (hon : ∀ j, j < o_n t → o_on t j ≤ 360) (hr1 : s_r1 t ≤ 30) (hr2 : s_r2 t ≤ 30) (hr3 : s_r3 t ≤ 30) : Met l yX3_markGenerations wsX3_markGenerations rm_X3_markGenerations (va_Pc [.ref (ad 5 0)] (k_I g (k_ct g ad t) ad)) (va_Qv (fun u => u = set_o_nd (set_o_pm t (k_Pm (s_th t) (o_pm t) (o_on t) (s_r1 t) (s_r2 t) (s_r3 t))) (k_Nm (s_th t) (o_nd t) (k_Pm (s_th t) (o_pm t) (o_on t) (s_r1 t) (s_r2 t) (s_r3 t)) (o_b t))) (fun u U => k_H g ad u U.heap) (k_A g)) 0 0 (k_A g) := by
  refine k_met (cc := cX3_markGenerations) (maxL := 5) (ret := none) (by decide) rfl (Nat.le_of_ble_eq_true rfl) (fun p e s m args below meth c Q ls hQ hx hb hr hml hts hown hlk hin hK hZ hN hW hS hl => ?_)
  have hown : s.vm.findClass RX3 = some m.cls := hown
  have hW : k_H g ad t s.heap := hW
  have hl : lv_has ls 5 [(0, .ref (ad 5 0))] := hl
  have hinX0 : ∀ w ∈ wsX00, w ∈ wsX3_markGenerations := by decide +kernel
  have hinX3 : ∀ w ∈ wsX30, w ∈ wsX3_markGenerations := by decide +kernel
  refine lv_aload_n hx hb dX3_markGenerations_0 rfl (lv_at hl 0 rfl) ?_
  refine k_get (own := RX3) (C := RX3) (T := TX3) (N := 5) hx hb hts hinX3 hown hK hW (kc_5 g ad t) rfl 0 (by decide) (hts (.fieldLink RX3 11 "DrillVault$Shelf" "rows" "[LDrillVault$Copy;") (by decide +kernel)) rfl (v := .ref (ad 6 0)) rfl dX3_markGenerations_1 ?_
  refine lv_astore_n (lv' := [(1, .ref (ad 6 0)), (0, .ref (ad 5 0))]) hx hb dX3_markGenerations_4 rfl hl (by decide) rfl (fun ls hl => ?_)
  refine lv_aload_n hx hb dX3_markGenerations_5 rfl (lv_at hl 0 rfl) ?_
  refine k_alen hx hb hK hW 3 rfl (kc_6 g ad t) (v := nI 60) rfl dX3_markGenerations_6 ?_
  refine lv_istore_n (lv' := [(2, .int (nI 60)), (1, .ref (ad 6 0)), (0, .ref (ad 5 0))]) hx hb dX3_markGenerations_7 rfl hl (by decide) rfl (fun ls hl => ?_)
  refine lv_iconst (v := nI 0) hx hb dX3_markGenerations_8 (by decide) ?_
  refine lv_istore_n (lv' := [(3, .int (nI 0)), (2, .int (nI 60)), (1, .ref (ad 6 0)), (0, .ref (ad 5 0))]) hx hb dX3_markGenerations_9 rfl hl (by decide) rfl (fun ls hl => ?_)
  have hloop_10 : ∀ (n : Nat) (i : Nat) (P1 : Nat → Bool) (N1 : Nat → Bool), (60 < i + n) → (i ≤ 60) → (∀ j, P1 j = if (decide (j < i) && s_th t j) = true then (fun _ => false) j else o_pm t j) → (∀ j, N1 j = if (decide (j < i) && s_th t j) = true then (fun _ => false) j else o_nd t j) → ∀ (H : Heap) (locs : List Loc), k_H g ad (set_o_nd (set_o_pm t P1) N1) H → va_S (k_A g) s.heap H locs → ∀ (ls : Array Slot), lv_has ls 5 [(0, .ref (ad 5 0)), (1, .ref (ad 6 0)), (2, .int (nI 60)), (3, .int (nI i))] → W p l e rm_X3_markGenerations s m args below meth c H locs 0 0 Q (F0 m 10 ls []) := by
    intro n
    induction n with
    | zero =>
      intro i P1 N1 hfu hi hP1 hN1
      exact absurd hfu (by omega)
    | succ n ih =>
      intro i P1 N1 hfu hi hP1 hN1 H locs hW hS ls hl
      refine lv_iload_n hx hb dX3_markGenerations_10 rfl (lv_at hl 3 rfl) ?_
      refine lv_iload_n hx hb dX3_markGenerations_11 rfl (lv_at hl 2 rfl) ?_
      refine k_icmp_ge (tgt := 43) hx hb (a := i) (b := 60) (by omega) (by decide) dX3_markGenerations_12 (by decide) (fun h_12 => ?_) (fun h_12 => ?_)
      · have hPe := k_rs_e hP1 hwf (show o_n t ≤ i by omega); have hNe := k_rs_e hN1 hwf (show o_n t ≤ i by omega)
        subst hPe; subst hNe
        have hW : k_H g ad (set_o_nd (set_o_pm t (fun j => if s_th t j = true then false else o_pm t j)) (k_N0 (s_th t) (o_nd t))) H := hW
        refine lv_aload_n hx hb dX3_markGenerations_43 rfl (lv_at hl 0 rfl) ?_
        refine lv_iconst (v := nI 0) hx hb dX3_markGenerations_44 (by decide) ?_
        refine lv_aload_n hx hb dX3_markGenerations_45 rfl (lv_at hl 0 rfl) ?_
        refine k_get (own := RX3) (C := RX3) (T := TX3) (N := 5) hx hb hts hinX3 hown hK hW (kc_5 g ad (set_o_nd (set_o_pm t (fun j => if s_th t j = true then false else o_pm t j)) (k_N0 (s_th t) (o_nd t)))) rfl 2 (by decide) (hts (.fieldLink RX3 17 "DrillVault$Shelf" "daysRule" "I") (by decide +kernel)) rfl (v := .int (nI (s_r1 t))) rfl dX3_markGenerations_46 ?_
        refine k_cv (va_runV (As := [.int (nI 0), .int (nI (s_r1 t))]) (rest := []) ⟨hx, hb, hml, hown, hts⟩ (c_X3_promiseLatest_0 l hlt g ad (set_o_nd (set_o_pm t (fun j => if s_th t j = true then false else o_pm t j)) (k_N0 (s_th t) (o_nd t))) (s_r1 t) hr1 hwf hon) (cwV 2 hts gX3_markGenerations_X3_promiseLatest rfl rfl rfl (by decide +kernel) ⟨(Nat.le_of_ble_eq_true rfl), (Nat.le_of_ble_eq_true rfl)⟩) ⟨k_blind, k_recv hK hW (kc_5 g ad (set_o_nd (set_o_pm t (fun j => if s_th t j = true then false else o_pm t j)) (k_N0 (s_th t) (o_nd t)))) rfl, fun U hU hw => ⟨rfl, k_I.of hK hZ hN hS hW hU hw⟩⟩ rfl rfl hl.1 rfl (lv_room (Nat.le_of_ble_eq_true rfl)) dX3_markGenerations_49 ⟨(Nat.le_of_ble_eq_true rfl), (Nat.le_of_ble_eq_true rfl)⟩) hS (fun u H locs hpo hW hS => ?_)
        have hu9 := hpo.symm; subst hu9
        have hW : k_H g ad (set_o_pm (set_o_nd t (k_N0 (s_th t) (o_nd t))) (fun j => (fun j => if s_th t j = true then false else o_pm t j) j || k_sel (s_th t) (fun j => k_pd 0 (o_on t j)) 60 (s_r1 t) (-1) j)) H := hW
        refine lv_aload_n hx hb dX3_markGenerations_52 rfl (lv_at hl 0 rfl) ?_
        refine lv_iconst (v := nI 1) hx hb dX3_markGenerations_53 (by decide) ?_
        refine lv_aload_n hx hb dX3_markGenerations_54 rfl (lv_at hl 0 rfl) ?_
        refine k_get (own := RX3) (C := RX3) (T := TX3) (N := 5) hx hb hts hinX3 hown hK hW (kc_5 g ad (set_o_pm (set_o_nd t (k_N0 (s_th t) (o_nd t))) (fun j => (fun j => if s_th t j = true then false else o_pm t j) j || k_sel (s_th t) (fun j => k_pd 0 (o_on t j)) 60 (s_r1 t) (-1) j))) rfl 3 (by decide) (hts (.fieldLink RX3 21 "DrillVault$Shelf" "weeksRule" "I") (by decide +kernel)) rfl (v := .int (nI (s_r2 t))) rfl dX3_markGenerations_55 ?_
        refine k_cv (va_runV (As := [.int (nI 1), .int (nI (s_r2 t))]) (rest := []) ⟨hx, hb, hml, hown, hts⟩ (c_X3_promiseLatest_1 l hlt g ad (set_o_pm (set_o_nd t (k_N0 (s_th t) (o_nd t))) (fun j => (fun j => if s_th t j = true then false else o_pm t j) j || k_sel (s_th t) (fun j => k_pd 0 (o_on t j)) 60 (s_r1 t) (-1) j)) (s_r2 t) hr2 hwf hon) (cwV 2 hts gX3_markGenerations_X3_promiseLatest rfl rfl rfl (by decide +kernel) ⟨(Nat.le_of_ble_eq_true rfl), (Nat.le_of_ble_eq_true rfl)⟩) ⟨k_blind, k_recv hK hW (kc_5 g ad (set_o_pm (set_o_nd t (k_N0 (s_th t) (o_nd t))) (fun j => (fun j => if s_th t j = true then false else o_pm t j) j || k_sel (s_th t) (fun j => k_pd 0 (o_on t j)) 60 (s_r1 t) (-1) j))) rfl, fun U hU hw => ⟨rfl, k_I.of hK hZ hN hS hW hU hw⟩⟩ rfl rfl hl.1 rfl (lv_room (Nat.le_of_ble_eq_true rfl)) dX3_markGenerations_58 ⟨(Nat.le_of_ble_eq_true rfl), (Nat.le_of_ble_eq_true rfl)⟩) hS (fun u H locs hpo hW hS => ?_)
        have hu9 := hpo.symm; subst hu9
        have hW : k_H g ad (set_o_pm (set_o_nd t (k_N0 (s_th t) (o_nd t))) (fun j => (fun j => (fun j => if s_th t j = true then false else o_pm t j) j || k_sel (s_th t) (fun j => k_pd 0 (o_on t j)) 60 (s_r1 t) (-1) j) j || k_sel (s_th t) (fun j => k_pd 1 (o_on t j)) 60 (s_r2 t) (-1) j)) H := hW
        refine lv_aload_n hx hb dX3_markGenerations_61 rfl (lv_at hl 0 rfl) ?_
        refine lv_iconst (v := nI 2) hx hb dX3_markGenerations_62 (by decide) ?_
        refine lv_aload_n hx hb dX3_markGenerations_63 rfl (lv_at hl 0 rfl) ?_
        refine k_get (own := RX3) (C := RX3) (T := TX3) (N := 5) hx hb hts hinX3 hown hK hW (kc_5 g ad (set_o_pm (set_o_nd t (k_N0 (s_th t) (o_nd t))) (fun j => (fun j => (fun j => if s_th t j = true then false else o_pm t j) j || k_sel (s_th t) (fun j => k_pd 0 (o_on t j)) 60 (s_r1 t) (-1) j) j || k_sel (s_th t) (fun j => k_pd 1 (o_on t j)) 60 (s_r2 t) (-1) j))) rfl 4 (by decide) (hts (.fieldLink RX3 24 "DrillVault$Shelf" "monthsRule" "I") (by decide +kernel)) rfl (v := .int (nI (s_r3 t))) rfl dX3_markGenerations_64 ?_
        refine k_cv (va_runV (As := [.int (nI 2), .int (nI (s_r3 t))]) (rest := []) ⟨hx, hb, hml, hown, hts⟩ (c_X3_promiseLatest_2 l hlt g ad (set_o_pm (set_o_nd t (k_N0 (s_th t) (o_nd t))) (fun j => (fun j => (fun j => if s_th t j = true then false else o_pm t j) j || k_sel (s_th t) (fun j => k_pd 0 (o_on t j)) 60 (s_r1 t) (-1) j) j || k_sel (s_th t) (fun j => k_pd 1 (o_on t j)) 60 (s_r2 t) (-1) j)) (s_r3 t) hr3 hwf hon) (cwV 2 hts gX3_markGenerations_X3_promiseLatest rfl rfl rfl (by decide +kernel) ⟨(Nat.le_of_ble_eq_true rfl), (Nat.le_of_ble_eq_true rfl)⟩) ⟨k_blind, k_recv hK hW (kc_5 g ad (set_o_pm (set_o_nd t (k_N0 (s_th t) (o_nd t))) (fun j => (fun j => (fun j => if s_th t j = true then false else o_pm t j) j || k_sel (s_th t) (fun j => k_pd 0 (o_on t j)) 60 (s_r1 t) (-1) j) j || k_sel (s_th t) (fun j => k_pd 1 (o_on t j)) 60 (s_r2 t) (-1) j))) rfl, fun U hU hw => ⟨rfl, k_I.of hK hZ hN hS hW hU hw⟩⟩ rfl rfl hl.1 rfl (lv_room (Nat.le_of_ble_eq_true rfl)) dX3_markGenerations_67 ⟨(Nat.le_of_ble_eq_true rfl), (Nat.le_of_ble_eq_true rfl)⟩) hS (fun u H locs hpo hW hS => ?_)
        have hu9 := hpo.symm; subst hu9
        have hW : k_H g ad (set_o_pm (set_o_nd t (k_N0 (s_th t) (o_nd t))) (fun j => (fun j => (fun j => (fun j => if s_th t j = true then false else o_pm t j) j || k_sel (s_th t) (fun j => k_pd 0 (o_on t j)) 60 (s_r1 t) (-1) j) j || k_sel (s_th t) (fun j => k_pd 1 (o_on t j)) 60 (s_r2 t) (-1) j) j || k_sel (s_th t) (fun j => k_pd 2 (o_on t j)) 60 (s_r3 t) (-1) j)) H := hW
        have hW : k_H g ad (set_o_nd (set_o_pm t (k_Pm (s_th t) (o_pm t) (o_on t) (s_r1 t) (s_r2 t) (s_r3 t))) (k_N0 (s_th t) (o_nd t))) H := by
          rw [show (k_Pm (s_th t) (o_pm t) (o_on t) (s_r1 t) (s_r2 t) (s_r3 t)) = (fun j => (fun j => (fun j => (fun j => if s_th t j = true then false else o_pm t j) j || k_sel (s_th t) (fun j => k_pd 0 (o_on t j)) 60 (s_r1 t) (-1) j) j || k_sel (s_th t) (fun j => k_pd 1 (o_on t j)) 60 (s_r2 t) (-1) j) j || k_sel (s_th t) (fun j => k_pd 2 (o_on t j)) 60 (s_r3 t) (-1) j) from funext fun j => by simp only [k_Pm, k_P, Bool.or_assoc]]; exact hW
        refine lv_aload_n hx hb dX3_markGenerations_70 rfl (lv_at hl 0 rfl) ?_
        refine k_get (own := RX3) (C := RX3) (T := TX3) (N := 5) hx hb hts hinX3 hown hK hW (kc_5 g ad (set_o_nd (set_o_pm t (k_Pm (s_th t) (o_pm t) (o_on t) (s_r1 t) (s_r2 t) (s_r3 t))) (k_N0 (s_th t) (o_nd t)))) rfl 0 (by decide) (hts (.fieldLink RX3 11 "DrillVault$Shelf" "rows" "[LDrillVault$Copy;") (by decide +kernel)) rfl (v := .ref (ad 6 0)) rfl dX3_markGenerations_71 ?_
        refine lv_astore_n (lv' := [(1, .ref (ad 6 0)), (0, .ref (ad 5 0)), (2, .int (nI 60)), (3, .int (nI i))]) hx hb dX3_markGenerations_74 rfl hl (by decide) rfl (fun ls hl => ?_)
        refine lv_aload_n hx hb dX3_markGenerations_75 rfl (lv_at hl 0 rfl) ?_
        refine k_alen hx hb hK hW 3 rfl (kc_6 g ad (set_o_nd (set_o_pm t (k_Pm (s_th t) (o_pm t) (o_on t) (s_r1 t) (s_r2 t) (s_r3 t))) (k_N0 (s_th t) (o_nd t)))) (v := nI 60) rfl dX3_markGenerations_76 ?_
        refine lv_istore_n (lv' := [(2, .int (nI 60)), (1, .ref (ad 6 0)), (0, .ref (ad 5 0)), (3, .int (nI i))]) hx hb dX3_markGenerations_77 rfl hl (by decide) rfl (fun ls hl => ?_)
        refine lv_iconst (v := nI 0) hx hb dX3_markGenerations_78 (by decide) ?_
        refine lv_istore_n (lv' := [(3, .int (nI 0)), (2, .int (nI 60)), (1, .ref (ad 6 0)), (0, .ref (ad 5 0))]) hx hb dX3_markGenerations_79 rfl hl (by decide) rfl (fun ls hl => ?_)
        have hloop_80 : ∀ (n : Nat) (i : Nat) (N1 : Nat → Bool), (60 < i + n) → (i ≤ 60) → (∀ j, N1 j = (k_N0 (s_th t) (o_nd t) j || k_nd (s_th t) (k_Pm (s_th t) (o_pm t) (o_on t) (s_r1 t) (s_r2 t) (s_r3 t)) (o_b t) i j)) → ∀ (H : Heap) (locs : List Loc), k_H g ad (set_o_nd (set_o_pm t (k_Pm (s_th t) (o_pm t) (o_on t) (s_r1 t) (s_r2 t) (s_r3 t))) N1) H → va_S (k_A g) s.heap H locs → ∀ (ls : Array Slot), lv_has ls 5 [(0, .ref (ad 5 0)), (1, .ref (ad 6 0)), (2, .int (nI 60)), (3, .int (nI i))] → W p l e rm_X3_markGenerations s m args below meth c H locs 0 0 Q (F0 m 80 ls []) := by
          intro n
          induction n with
          | zero =>
            intro i N1 hfu hi hN1
            exact absurd hfu (by omega)
          | succ n ih =>
            intro i N1 hfu hi hN1 H locs hW hS ls hl
            refine lv_iload_n hx hb dX3_markGenerations_80 rfl (lv_at hl 3 rfl) ?_
            refine lv_iload_n hx hb dX3_markGenerations_81 rfl (lv_at hl 2 rfl) ?_
            refine k_icmp_ge (tgt := 114) hx hb (a := i) (b := 60) (by omega) (by decide) dX3_markGenerations_82 (by decide) (fun h_82 => ?_) (fun h_82 => ?_)
            · exact k_rv hQ hx hb hr hlk hS hW (by rw [show N1 = (k_Nm (s_th t) (o_nd t) (k_Pm (s_th t) (o_pm t) (o_on t) (s_r1 t) (s_r2 t) (s_r3 t)) (o_b t)) from funext fun j => by rw [hN1 j, show i = 60 by omega]; rfl]) (Nat.le_of_ble_eq_true rfl) (Nat.le_of_ble_eq_true rfl) dX3_markGenerations_114
            · refine lv_aload_n hx hb dX3_markGenerations_85 rfl (lv_at hl 1 rfl) ?_
              refine lv_iload_n hx hb dX3_markGenerations_86 rfl (lv_at hl 3 rfl) ?_
              refine k_aald hx hb hK hW (kc_6 g ad (set_o_nd (set_o_pm t (k_Pm (s_th t) (o_pm t) (o_on t) (s_r1 t) (s_r2 t) (s_r3 t))) N1)) i rfl (by omega) (by decide) dX3_markGenerations_87 ?_
              rcases Bool.eq_false_or_eq_true (s_th t i) with hb_88 | hb_88
              · refine k_tov (y := .ref (ad 25 i)) (congrArg va_rf (if_pos hb_88)) ?_
                refine lv_astore (lv' := [(4, .ref (ad 25 i)), (0, .ref (ad 5 0)), (1, .ref (ad 6 0)), (2, .int (nI 60)), (3, .int (nI i))]) hx hb dX3_markGenerations_88 hl (by decide) rfl (fun ls hl => ?_)
                refine lv_aload hx hb dX3_markGenerations_90 (lv_at hl 0 rfl) ?_
                refine lv_ifnull hx hb dX3_markGenerations_92 ?_
                refine lv_aload hx hb dX3_markGenerations_95 (lv_at hl 0 rfl) ?_
                refine k_getN (host := RX4) (index := 34) (own := RX3) (C := RX0) (T := TX0) (N := 11) hx hb hts hinX0 hown hK hW (kc_25 g ad (set_o_nd (set_o_pm t (k_Pm (s_th t) (o_pm t) (o_on t) (s_r1 t) (s_r2 t) (s_r3 t))) N1) (hwf _ hb_88)) rfl 8 (by decide) (by decide +kernel) rfl (v := .int (kb ((k_Pm (s_th t) (o_pm t) (o_on t) (s_r1 t) (s_r2 t) (s_r3 t)) i))) rfl dX3_markGenerations_97 ?_
                refine k_ifz_eq (tgt := 108) hx hb dX3_markGenerations_100 (by decide) (fun h_100 => ?_) (fun h_100 => ?_)
                · refine lv_iinc (v := nI (i + 1)) (lv' := [(3, .int (nI (i + 1))), (4, .ref (ad 25 i)), (0, .ref (ad 5 0)), (1, .ref (ad 6 0)), (2, .int (nI 60))]) hx hb dX3_markGenerations_108 hl (k := 4) rfl (nI_add _ _) (by decide) rfl (fun ls hl => ?_)
                  refine lv_goto (tgt := 80) hx hb dX3_markGenerations_111 (by decide) ?_
                  exact ih (i + 1) N1 (by omega) (by omega) (fun j => by rw [hN1 j, k_nd_n (by rw [hb_88, h_100]; rfl)]) _ _ hW hS _ (lv_sub hl [2, 3, 4, 0] rfl)
                · refine lv_aload hx hb dX3_markGenerations_103 (lv_at hl 0 rfl) ?_
                  refine k_cv (va_runV (As := []) (rest := []) ⟨hx, hb, hml, hown, hts⟩ (c_X0_markChainNeeded l hlt g ad (set_o_nd (set_o_pm t (k_Pm (s_th t) (o_pm t) (o_on t) (s_r1 t) (s_r2 t) (s_r3 t))) N1) i (hwf _ hb_88) hbs hb_88 hth (k_nd_cc hN1 (fun j b h q => (hbs _ _ (hwf _ h) q).2)) hwf) (cwV 0 hts gX3_markGenerations_X0_markChainNeeded rfl rfl rfl (by decide +kernel) ⟨(Nat.le_of_ble_eq_true rfl), (Nat.le_of_ble_eq_true rfl)⟩) ⟨k_blind, k_recv hK hW (kc_25 g ad (set_o_nd (set_o_pm t (k_Pm (s_th t) (o_pm t) (o_on t) (s_r1 t) (s_r2 t) (s_r3 t))) N1) (hwf _ hb_88)) rfl, fun U hU hw => ⟨rfl, k_I.of hK hZ hN hS hW hU hw⟩⟩ rfl rfl hl.1 rfl (lv_room (Nat.le_of_ble_eq_true rfl)) dX3_markGenerations_105 ⟨(Nat.le_of_ble_eq_true rfl), (Nat.le_of_ble_eq_true rfl)⟩) hS (fun u H locs hpo hW hS => ?_)
                  have hu9 := hpo.symm; subst hu9
                  have hW : k_H g ad (set_o_nd (set_o_pm t (k_Pm (s_th t) (o_pm t) (o_on t) (s_r1 t) (s_r2 t) (s_r3 t))) (fun j => N1 j || (k_cl (o_b t) i).contains j)) H := hW
                  refine lv_iinc (v := nI (i + 1)) (lv' := [(3, .int (nI (i + 1))), (4, .ref (ad 25 i)), (0, .ref (ad 5 0)), (1, .ref (ad 6 0)), (2, .int (nI 60))]) hx hb dX3_markGenerations_108 hl (k := 4) rfl (nI_add _ _) (by decide) rfl (fun ls hl => ?_)
                  refine lv_goto (tgt := 80) hx hb dX3_markGenerations_111 (by decide) ?_
                  exact ih (i + 1) (fun j => N1 j || (k_cl (o_b t) i).contains j) (by omega) (by omega) (fun j => by show (N1 j || _) = _; rw [hN1 j, k_nd_y hb_88 h_100, Bool.or_assoc]) _ _ hW hS _ (lv_sub hl [2, 3, 4, 0] rfl)
              · refine k_tov (y := .null) (congrArg va_rf (if_neg (fun q => absurd (hb_88.symm.trans q) (by decide)))) ?_
                refine lv_astoreN (lv' := [(4, .null), (0, .ref (ad 5 0)), (1, .ref (ad 6 0)), (2, .int (nI 60)), (3, .int (nI i))]) hx hb dX3_markGenerations_88 hl (by decide) rfl (fun ls hl => ?_)
                refine lv_aloadN hx hb dX3_markGenerations_90 (lv_at hl 0 rfl) ?_
                refine lv_ifnullN (tgt := 108) hx hb dX3_markGenerations_92 (by decide) ?_
                refine lv_iinc (v := nI (i + 1)) (lv' := [(3, .int (nI (i + 1))), (4, .null), (0, .ref (ad 5 0)), (1, .ref (ad 6 0)), (2, .int (nI 60))]) hx hb dX3_markGenerations_108 hl (k := 4) rfl (nI_add _ _) (by decide) rfl (fun ls hl => ?_)
                refine lv_goto (tgt := 80) hx hb dX3_markGenerations_111 (by decide) ?_
                exact ih (i + 1) N1 (by omega) (by omega) (fun j => by rw [hN1 j, k_nd_n (by rw [hb_88]; rfl)]) _ _ hW hS _ (lv_sub hl [2, 3, 4, 0] rfl)
        exact hloop_80 61 0 (k_N0 (s_th t) (o_nd t)) (by omega) (by omega) (fun j => (Bool.or_false _).symm) _ _ hW hS _ (lv_sub hl [3, 2, 1, 0] rfl)
      · refine lv_aload_n hx hb dX3_markGenerations_15 rfl (lv_at hl 1 rfl) ?_
        refine lv_iload_n hx hb dX3_markGenerations_16 rfl (lv_at hl 3 rfl) ?_
        refine k_aald hx hb hK hW (kc_6 g ad (set_o_nd (set_o_pm t P1) N1)) i rfl (by omega) (by decide) dX3_markGenerations_17 ?_
        rcases Bool.eq_false_or_eq_true (s_th t i) with hb_18 | hb_18
        · refine k_tov (y := .ref (ad 25 i)) (congrArg va_rf (if_pos hb_18)) ?_
          refine lv_astore (lv' := [(4, .ref (ad 25 i)), (0, .ref (ad 5 0)), (1, .ref (ad 6 0)), (2, .int (nI 60)), (3, .int (nI i))]) hx hb dX3_markGenerations_18 hl (by decide) rfl (fun ls hl => ?_)
          refine lv_aload hx hb dX3_markGenerations_20 (lv_at hl 0 rfl) ?_
          refine lv_ifnull hx hb dX3_markGenerations_22 ?_
          refine lv_aload hx hb dX3_markGenerations_25 (lv_at hl 0 rfl) ?_
          refine lv_iconst (v := nI 0) hx hb dX3_markGenerations_27 (by decide) ?_
          refine k_putN (host := RX4) (index := 34) (own := RX3) (C := RX0) (T := TX0) (N := 11) hx hb hts hinX0 tyX0 tyX0_ok nmX0 hown hK hW hS (kc_25 g ad (set_o_nd (set_o_pm t P1) N1) (hwf _ hb_18)) rfl 8 (by decide) (by decide +kernel) rfl rfl (ty := tyX0 8) (v := .int (nI 0)) (tyX0_ok 8 (by decide)) rfl rfl (Nat.le_of_ble_eq_true rfl) dX3_markGenerations_28 (fun H locs hW hS => ?_)
          have hW : k_H g ad (set_o_pm (set_o_nd t N1) (va_up P1 i false)) H := kt_o_pm (t := set_o_nd (set_o_pm t P1) N1) i (hwf _ hb_18) false rfl hW
          refine lv_aload hx hb dX3_markGenerations_31 (lv_at hl 0 rfl) ?_
          refine lv_iconst (v := nI 0) hx hb dX3_markGenerations_33 (by decide) ?_
          refine k_putN (host := RX4) (index := 38) (own := RX3) (C := RX0) (T := TX0) (N := 11) hx hb hts hinX0 tyX0 tyX0_ok nmX0 hown hK hW hS (kc_25 g ad (set_o_pm (set_o_nd t N1) (va_up P1 i false)) (hwf _ hb_18)) rfl 9 (by decide) (by decide +kernel) rfl rfl (ty := tyX0 9) (v := .int (nI 0)) (tyX0_ok 9 (by decide)) rfl rfl (Nat.le_of_ble_eq_true rfl) dX3_markGenerations_34 (fun H locs hW hS => ?_)
          have hW : k_H g ad (set_o_nd (set_o_pm t (va_up P1 i false)) (va_up N1 i false)) H := kt_o_nd (t := set_o_pm (set_o_nd t N1) (va_up P1 i false)) i (hwf _ hb_18) false rfl hW
          refine lv_iinc (v := nI (i + 1)) (lv' := [(3, .int (nI (i + 1))), (4, .ref (ad 25 i)), (0, .ref (ad 5 0)), (1, .ref (ad 6 0)), (2, .int (nI 60))]) hx hb dX3_markGenerations_37 hl (k := 4) rfl (nI_add _ _) (by decide) rfl (fun ls hl => ?_)
          refine lv_goto (tgt := 10) hx hb dX3_markGenerations_40 (by decide) ?_
          exact ih (i + 1) (va_up P1 i false) (va_up N1 i false) (by omega) (by omega) (k_rs hP1 hb_18 rfl) (k_rs hN1 hb_18 rfl) _ _ hW hS _ (lv_sub hl [2, 3, 4, 0] rfl)
        · refine k_tov (y := .null) (congrArg va_rf (if_neg (fun q => absurd (hb_18.symm.trans q) (by decide)))) ?_
          refine lv_astoreN (lv' := [(4, .null), (0, .ref (ad 5 0)), (1, .ref (ad 6 0)), (2, .int (nI 60)), (3, .int (nI i))]) hx hb dX3_markGenerations_18 hl (by decide) rfl (fun ls hl => ?_)
          refine lv_aloadN hx hb dX3_markGenerations_20 (lv_at hl 0 rfl) ?_
          refine lv_ifnullN (tgt := 37) hx hb dX3_markGenerations_22 (by decide) ?_
          refine lv_iinc (v := nI (i + 1)) (lv' := [(3, .int (nI (i + 1))), (4, .null), (0, .ref (ad 5 0)), (1, .ref (ad 6 0)), (2, .int (nI 60))]) hx hb dX3_markGenerations_37 hl (k := 4) rfl (nI_add _ _) (by decide) rfl (fun ls hl => ?_)
          refine lv_goto (tgt := 10) hx hb dX3_markGenerations_40 (by decide) ?_
          exact ih (i + 1) P1 N1 (by omega) (by omega) (k_rs_n hP1 hb_18) (k_rs_n hN1 hb_18) _ _ hW hS _ (lv_sub hl [2, 3, 4, 0] rfl)
  exact hloop_10 61 0 (o_pm t) (o_nd t) (by omega) (by omega) k_rs_0 k_rs_0 _ _ hW hS _ (lv_sub hl [3, 2, 1, 0] rfl)
abbrev rm_X3_countPromised : Room := { frames := 3, cells := 0, slots := 0, locals := 71 }
set_option maxRecDepth 100000 in
set_option maxHeartbeats 4000000 in
theorem c_X3_countPromised (l : Launch) (hlt : l.stackTraces = false) (g : k_g) (ad : k_AD) (t : k_T) (hwf : ∀ j, s_th t j = true → j < o_n t) (hbs : ∀ k b, k < o_n t → o_b t k = some b → b < o_n t ∧ b < k) (hth : ∀ j b, s_th t j = true → o_b t j = some b → s_th t b = true) (hn60 : o_n t ≤ 60) (hon : ∀ j, j < o_n t → o_on t j ≤ 360) (hr1 : s_r1 t ≤ 30) (hr2 : s_r2 t ≤ 30) (hr3 : s_r3 t ≤ 30) : Met l yX3_countPromised wsX3_countPromised rm_X3_countPromised (va_Pc [.ref (ad 5 0)] (k_I g (k_ct g ad t) ad)) (va_Qi (fun r u => r = nI (k_cb (fun k => (s_th t) k && (k_Pm (s_th t) (o_pm t) (o_on t) (s_r1 t) (s_r2 t) (s_r3 t)) k) 60) ∧ u = set_o_nd (set_o_pm t (k_Pm (s_th t) (o_pm t) (o_on t) (s_r1 t) (s_r2 t) (s_r3 t))) (k_Nm (s_th t) (o_nd t) (k_Pm (s_th t) (o_pm t) (o_on t) (s_r1 t) (s_r2 t) (s_r3 t)) (o_b t))) (fun u U => k_H g ad u U.heap) (k_A g)) 0 0 (k_A g) := by
  refine k_met (cc := cX3_countPromised) (maxL := 6) (ret := (some .int)) (by decide) rfl (Nat.le_of_ble_eq_true rfl) (fun p e s m args below meth c Q ls hQ hx hb hr hml hts hown hlk hin hK hZ hN hW hS hl => ?_)
  have hown : s.vm.findClass RX3 = some m.cls := hown
  have hW : k_H g ad t s.heap := hW
  have hl : lv_has ls 6 [(0, .ref (ad 5 0))] := hl
  have hinX0 : ∀ w ∈ wsX00, w ∈ wsX3_countPromised := by decide +kernel
  have hinX3 : ∀ w ∈ wsX30, w ∈ wsX3_countPromised := by decide +kernel
  refine lv_aload_n hx hb dX3_countPromised_0 rfl (lv_at hl 0 rfl) ?_
  refine k_cv (va_runV (As := []) (rest := []) ⟨hx, hb, hml, hown, hts⟩ (c_X3_markGenerations l hlt g ad t hwf hbs hth hn60 hon hr1 hr2 hr3) (cwV 0 hts gX3_countPromised_X3_markGenerations rfl rfl rfl (by decide +kernel) ⟨(Nat.le_of_ble_eq_true rfl), (Nat.le_of_ble_eq_true rfl)⟩) ⟨k_blind, k_recv hK hW (kc_5 g ad t) rfl, fun U hU hw => ⟨rfl, k_I.of hK hZ hN hS hW hU hw⟩⟩ rfl rfl hl.1 rfl (lv_room (Nat.le_of_ble_eq_true rfl)) dX3_countPromised_1 ⟨(Nat.le_of_ble_eq_true rfl), (Nat.le_of_ble_eq_true rfl)⟩) hS (fun u H locs hpo hW hS => ?_)
  have hu9 := hpo.symm; subst hu9
  have hW : k_H g ad (set_o_nd (set_o_pm t (k_Pm (s_th t) (o_pm t) (o_on t) (s_r1 t) (s_r2 t) (s_r3 t))) (k_Nm (s_th t) (o_nd t) (k_Pm (s_th t) (o_pm t) (o_on t) (s_r1 t) (s_r2 t) (s_r3 t)) (o_b t))) H := hW
  refine lv_iconst (v := nI 0) hx hb dX3_countPromised_4 (by decide) ?_
  refine lv_istore_n (lv' := [(1, .int (nI 0)), (0, .ref (ad 5 0))]) hx hb dX3_countPromised_5 rfl hl (by decide) rfl (fun ls hl => ?_)
  refine lv_aload_n hx hb dX3_countPromised_6 rfl (lv_at hl 1 rfl) ?_
  refine k_get (own := RX3) (C := RX3) (T := TX3) (N := 5) hx hb hts hinX3 hown hK hW (kc_5 g ad (set_o_nd (set_o_pm t (k_Pm (s_th t) (o_pm t) (o_on t) (s_r1 t) (s_r2 t) (s_r3 t))) (k_Nm (s_th t) (o_nd t) (k_Pm (s_th t) (o_pm t) (o_on t) (s_r1 t) (s_r2 t) (s_r3 t)) (o_b t)))) rfl 0 (by decide) (hts (.fieldLink RX3 11 "DrillVault$Shelf" "rows" "[LDrillVault$Copy;") (by decide +kernel)) rfl (v := .ref (ad 6 0)) rfl dX3_countPromised_7 ?_
  refine lv_astore_n (lv' := [(2, .ref (ad 6 0)), (1, .int (nI 0)), (0, .ref (ad 5 0))]) hx hb dX3_countPromised_10 rfl hl (by decide) rfl (fun ls hl => ?_)
  refine lv_aload_n hx hb dX3_countPromised_11 rfl (lv_at hl 0 rfl) ?_
  refine k_alen hx hb hK hW 3 rfl (kc_6 g ad (set_o_nd (set_o_pm t (k_Pm (s_th t) (o_pm t) (o_on t) (s_r1 t) (s_r2 t) (s_r3 t))) (k_Nm (s_th t) (o_nd t) (k_Pm (s_th t) (o_pm t) (o_on t) (s_r1 t) (s_r2 t) (s_r3 t)) (o_b t)))) (v := nI 60) rfl dX3_countPromised_12 ?_
  refine lv_istore_n (lv' := [(3, .int (nI 60)), (2, .ref (ad 6 0)), (1, .int (nI 0)), (0, .ref (ad 5 0))]) hx hb dX3_countPromised_13 rfl hl (by decide) rfl (fun ls hl => ?_)
  refine lv_iconst (v := nI 0) hx hb dX3_countPromised_14 (by decide) ?_
  refine lv_istore (lv' := [(4, .int (nI 0)), (3, .int (nI 60)), (2, .ref (ad 6 0)), (1, .int (nI 0)), (0, .ref (ad 5 0))]) hx hb dX3_countPromised_15 hl (by decide) rfl (fun ls hl => ?_)
  have hloop_17 : ∀ (n : Nat) (i : Nat) (cn : Nat), (60 < i + n) → (i ≤ 60) → (cn = k_cb (fun k => s_th t k && (k_Pm (s_th t) (o_pm t) (o_on t) (s_r1 t) (s_r2 t) (s_r3 t)) k) i) → ∀ (H : Heap) (locs : List Loc), k_H g ad (set_o_nd (set_o_pm t (k_Pm (s_th t) (o_pm t) (o_on t) (s_r1 t) (s_r2 t) (s_r3 t))) (k_Nm (s_th t) (o_nd t) (k_Pm (s_th t) (o_pm t) (o_on t) (s_r1 t) (s_r2 t) (s_r3 t)) (o_b t))) H → va_S (k_A g) s.heap H locs → ∀ (ls : Array Slot), lv_has ls 6 [(0, .ref (ad 5 0)), (2, .ref (ad 6 0)), (3, .int (nI 60)), (4, .int (nI i)), (1, .int (nI cn))] → W p l e rm_X3_countPromised s m args below meth c H locs 0 0 Q (F0 m 17 ls []) := by
    intro n
    induction n with
    | zero =>
      intro i cn hfu hi hcn
      exact absurd hfu (by omega)
    | succ n ih =>
      intro i cn hfu hi hcn H locs hW hS ls hl
      refine lv_iload hx hb dX3_countPromised_17 (lv_at hl 3 rfl) ?_
      refine lv_iload_n hx hb dX3_countPromised_19 rfl (lv_at hl 2 rfl) ?_
      refine k_icmp_ge (tgt := 51) hx hb (a := i) (b := 60) (by omega) (by decide) dX3_countPromised_20 (by decide) (fun h_20 => ?_) (fun h_20 => ?_)
      · refine lv_iload_n hx hb dX3_countPromised_51 rfl (lv_at hl 4 rfl) ?_
        exact k_ri hQ hx hb hr hlk hS hW ⟨by rw [hcn, show i = 60 by omega], rfl⟩ (Nat.le_of_ble_eq_true rfl) (Nat.le_of_ble_eq_true rfl) dX3_countPromised_52
      · refine lv_aload_n hx hb dX3_countPromised_23 rfl (lv_at hl 1 rfl) ?_
        refine lv_iload hx hb dX3_countPromised_24 (lv_at hl 3 rfl) ?_
        refine k_aald hx hb hK hW (kc_6 g ad (set_o_nd (set_o_pm t (k_Pm (s_th t) (o_pm t) (o_on t) (s_r1 t) (s_r2 t) (s_r3 t))) (k_Nm (s_th t) (o_nd t) (k_Pm (s_th t) (o_pm t) (o_on t) (s_r1 t) (s_r2 t) (s_r3 t)) (o_b t)))) i rfl (by omega) (by decide) dX3_countPromised_26 ?_
        rcases Bool.eq_false_or_eq_true (s_th t i) with hb_27 | hb_27
        · refine k_tov (y := .ref (ad 25 i)) (congrArg va_rf (if_pos hb_27)) ?_
          refine lv_astore (lv' := [(5, .ref (ad 25 i)), (0, .ref (ad 5 0)), (2, .ref (ad 6 0)), (3, .int (nI 60)), (4, .int (nI i)), (1, .int (nI cn))]) hx hb dX3_countPromised_27 hl (by decide) rfl (fun ls hl => ?_)
          refine lv_aload hx hb dX3_countPromised_29 (lv_at hl 0 rfl) ?_
          refine lv_ifnull hx hb dX3_countPromised_31 ?_
          refine lv_aload hx hb dX3_countPromised_34 (lv_at hl 0 rfl) ?_
          refine k_getN (host := RX4) (index := 34) (own := RX3) (C := RX0) (T := TX0) (N := 11) hx hb hts hinX0 hown hK hW (kc_25 g ad (set_o_nd (set_o_pm t (k_Pm (s_th t) (o_pm t) (o_on t) (s_r1 t) (s_r2 t) (s_r3 t))) (k_Nm (s_th t) (o_nd t) (k_Pm (s_th t) (o_pm t) (o_on t) (s_r1 t) (s_r2 t) (s_r3 t)) (o_b t))) (hwf _ hb_27)) rfl 8 (by decide) (by decide +kernel) rfl (v := .int (kb ((k_Pm (s_th t) (o_pm t) (o_on t) (s_r1 t) (s_r2 t) (s_r3 t)) i))) rfl dX3_countPromised_36 ?_
          refine k_ifz_eq (tgt := 45) hx hb dX3_countPromised_39 (by decide) (fun h_39 => ?_) (fun h_39 => ?_)
          · refine lv_iinc (v := nI (i + 1)) (lv' := [(4, .int (nI (i + 1))), (5, .ref (ad 25 i)), (0, .ref (ad 5 0)), (2, .ref (ad 6 0)), (3, .int (nI 60)), (1, .int (nI cn))]) hx hb dX3_countPromised_45 hl (k := 4) rfl (nI_add _ _) (by decide) rfl (fun ls hl => ?_)
            refine lv_goto (tgt := 17) hx hb dX3_countPromised_48 (by decide) ?_
            exact ih (i + 1) cn (by omega) (by omega) (by rw [k_cb_n (show (s_th t i && _) = false by rw [hb_27, h_39]; rfl), hcn]) _ _ hW hS _ (lv_sub hl [2, 3, 4, 0, 5] rfl)
          · refine lv_iinc (v := nI (cn + 1)) (lv' := [(1, .int (nI (cn + 1))), (5, .ref (ad 25 i)), (0, .ref (ad 5 0)), (2, .ref (ad 6 0)), (3, .int (nI 60)), (4, .int (nI i))]) hx hb dX3_countPromised_42 hl (k := 5) rfl (nI_add _ _) (by decide) rfl (fun ls hl => ?_)
            refine lv_iinc (v := nI (i + 1)) (lv' := [(4, .int (nI (i + 1))), (1, .int (nI (cn + 1))), (5, .ref (ad 25 i)), (0, .ref (ad 5 0)), (2, .ref (ad 6 0)), (3, .int (nI 60))]) hx hb dX3_countPromised_45 hl (k := 5) rfl (nI_add _ _) (by decide) rfl (fun ls hl => ?_)
            refine lv_goto (tgt := 17) hx hb dX3_countPromised_48 (by decide) ?_
            exact ih (i + 1) (cn + 1) (by omega) (by omega) (by rw [k_cb_y (show (s_th t i && _) = true by rw [hb_27, h_39]; rfl), hcn]) _ _ hW hS _ (lv_sub hl [3, 4, 5, 0, 1] rfl)
        · refine k_tov (y := .null) (congrArg va_rf (if_neg (fun q => absurd (hb_27.symm.trans q) (by decide)))) ?_
          refine lv_astoreN (lv' := [(5, .null), (0, .ref (ad 5 0)), (2, .ref (ad 6 0)), (3, .int (nI 60)), (4, .int (nI i)), (1, .int (nI cn))]) hx hb dX3_countPromised_27 hl (by decide) rfl (fun ls hl => ?_)
          refine lv_aloadN hx hb dX3_countPromised_29 (lv_at hl 0 rfl) ?_
          refine lv_ifnullN (tgt := 45) hx hb dX3_countPromised_31 (by decide) ?_
          refine lv_iinc (v := nI (i + 1)) (lv' := [(4, .int (nI (i + 1))), (5, .null), (0, .ref (ad 5 0)), (2, .ref (ad 6 0)), (3, .int (nI 60)), (1, .int (nI cn))]) hx hb dX3_countPromised_45 hl (k := 4) rfl (nI_add _ _) (by decide) rfl (fun ls hl => ?_)
          refine lv_goto (tgt := 17) hx hb dX3_countPromised_48 (by decide) ?_
          exact ih (i + 1) cn (by omega) (by omega) (by rw [k_cb_n (show (s_th t i && _) = false by rw [hb_27]; rfl), hcn]) _ _ hW hS _ (lv_sub hl [2, 3, 4, 0, 5] rfl)
  exact hloop_17 61 0 0 (by omega) (by omega) rfl _ _ hW hS _ (lv_sub hl [4, 2, 1, 0, 3] rfl)
abbrev rm_X3_countPromisedButDamaged : Room := { frames := 3, cells := 0, slots := 0, locals := 71 }
set_option maxRecDepth 100000 in
set_option maxHeartbeats 4000000 in
theorem c_X3_countPromisedButDamaged (l : Launch) (hlt : l.stackTraces = false) (g : k_g) (ad : k_AD) (t : k_T) (hwf : ∀ j, s_th t j = true → j < o_n t) (hbs : ∀ k b, k < o_n t → o_b t k = some b → b < o_n t ∧ b < k) (hth : ∀ j b, s_th t j = true → o_b t j = some b → s_th t b = true) (hn60 : o_n t ≤ 60) (hon : ∀ j, j < o_n t → o_on t j ≤ 360) (hr1 : s_r1 t ≤ 30) (hr2 : s_r2 t ≤ 30) (hr3 : s_r3 t ≤ 30) : Met l yX3_countPromisedButDamaged wsX3_countPromisedButDamaged rm_X3_countPromisedButDamaged (va_Pc [.ref (ad 5 0)] (k_I g (k_ct g ad t) ad)) (va_Qi (fun r u => r = nI (k_cb (fun k => ((s_th t) k && (k_Pm (s_th t) (o_pm t) (o_on t) (s_r1 t) (s_r2 t) (s_r3 t)) k) && (k_cl (o_b t) k).any (o_dm t)) 60) ∧ u = set_o_nd (set_o_pm t (k_Pm (s_th t) (o_pm t) (o_on t) (s_r1 t) (s_r2 t) (s_r3 t))) (k_Nm (s_th t) (o_nd t) (k_Pm (s_th t) (o_pm t) (o_on t) (s_r1 t) (s_r2 t) (s_r3 t)) (o_b t))) (fun u U => k_H g ad u U.heap) (k_A g)) 0 0 (k_A g) := by
  refine k_met (cc := cX3_countPromisedButDamaged) (maxL := 6) (ret := (some .int)) (by decide) rfl (Nat.le_of_ble_eq_true rfl) (fun p e s m args below meth c Q ls hQ hx hb hr hml hts hown hlk hin hK hZ hN hW hS hl => ?_)
  have hown : s.vm.findClass RX3 = some m.cls := hown
  have hW : k_H g ad t s.heap := hW
  have hl : lv_has ls 6 [(0, .ref (ad 5 0))] := hl
  have hinX0 : ∀ w ∈ wsX00, w ∈ wsX3_countPromisedButDamaged := by decide +kernel
  have hinX3 : ∀ w ∈ wsX30, w ∈ wsX3_countPromisedButDamaged := by decide +kernel
  refine lv_aload_n hx hb dX3_countPromisedButDamaged_0 rfl (lv_at hl 0 rfl) ?_
  refine k_cv (va_runV (As := []) (rest := []) ⟨hx, hb, hml, hown, hts⟩ (c_X3_markGenerations l hlt g ad t hwf hbs hth hn60 hon hr1 hr2 hr3) (cwV 0 hts gX3_countPromisedButDamaged_X3_markGenerations rfl rfl rfl (by decide +kernel) ⟨(Nat.le_of_ble_eq_true rfl), (Nat.le_of_ble_eq_true rfl)⟩) ⟨k_blind, k_recv hK hW (kc_5 g ad t) rfl, fun U hU hw => ⟨rfl, k_I.of hK hZ hN hS hW hU hw⟩⟩ rfl rfl hl.1 rfl (lv_room (Nat.le_of_ble_eq_true rfl)) dX3_countPromisedButDamaged_1 ⟨(Nat.le_of_ble_eq_true rfl), (Nat.le_of_ble_eq_true rfl)⟩) hS (fun u H locs hpo hW hS => ?_)
  have hu9 := hpo.symm; subst hu9
  have hW : k_H g ad (set_o_nd (set_o_pm t (k_Pm (s_th t) (o_pm t) (o_on t) (s_r1 t) (s_r2 t) (s_r3 t))) (k_Nm (s_th t) (o_nd t) (k_Pm (s_th t) (o_pm t) (o_on t) (s_r1 t) (s_r2 t) (s_r3 t)) (o_b t))) H := hW
  refine lv_iconst (v := nI 0) hx hb dX3_countPromisedButDamaged_4 (by decide) ?_
  refine lv_istore_n (lv' := [(1, .int (nI 0)), (0, .ref (ad 5 0))]) hx hb dX3_countPromisedButDamaged_5 rfl hl (by decide) rfl (fun ls hl => ?_)
  refine lv_aload_n hx hb dX3_countPromisedButDamaged_6 rfl (lv_at hl 1 rfl) ?_
  refine k_get (own := RX3) (C := RX3) (T := TX3) (N := 5) hx hb hts hinX3 hown hK hW (kc_5 g ad (set_o_nd (set_o_pm t (k_Pm (s_th t) (o_pm t) (o_on t) (s_r1 t) (s_r2 t) (s_r3 t))) (k_Nm (s_th t) (o_nd t) (k_Pm (s_th t) (o_pm t) (o_on t) (s_r1 t) (s_r2 t) (s_r3 t)) (o_b t)))) rfl 0 (by decide) (hts (.fieldLink RX3 11 "DrillVault$Shelf" "rows" "[LDrillVault$Copy;") (by decide +kernel)) rfl (v := .ref (ad 6 0)) rfl dX3_countPromisedButDamaged_7 ?_
  refine lv_astore_n (lv' := [(2, .ref (ad 6 0)), (1, .int (nI 0)), (0, .ref (ad 5 0))]) hx hb dX3_countPromisedButDamaged_10 rfl hl (by decide) rfl (fun ls hl => ?_)
  refine lv_aload_n hx hb dX3_countPromisedButDamaged_11 rfl (lv_at hl 0 rfl) ?_
  refine k_alen hx hb hK hW 3 rfl (kc_6 g ad (set_o_nd (set_o_pm t (k_Pm (s_th t) (o_pm t) (o_on t) (s_r1 t) (s_r2 t) (s_r3 t))) (k_Nm (s_th t) (o_nd t) (k_Pm (s_th t) (o_pm t) (o_on t) (s_r1 t) (s_r2 t) (s_r3 t)) (o_b t)))) (v := nI 60) rfl dX3_countPromisedButDamaged_12 ?_
  refine lv_istore_n (lv' := [(3, .int (nI 60)), (2, .ref (ad 6 0)), (1, .int (nI 0)), (0, .ref (ad 5 0))]) hx hb dX3_countPromisedButDamaged_13 rfl hl (by decide) rfl (fun ls hl => ?_)
  refine lv_iconst (v := nI 0) hx hb dX3_countPromisedButDamaged_14 (by decide) ?_
  refine lv_istore (lv' := [(4, .int (nI 0)), (3, .int (nI 60)), (2, .ref (ad 6 0)), (1, .int (nI 0)), (0, .ref (ad 5 0))]) hx hb dX3_countPromisedButDamaged_15 hl (by decide) rfl (fun ls hl => ?_)
  have hloop_17 : ∀ (n : Nat) (i : Nat) (cn : Nat), (60 < i + n) → (i ≤ 60) → (cn = k_cb (fun k => ((s_th t) k && (k_Pm (s_th t) (o_pm t) (o_on t) (s_r1 t) (s_r2 t) (s_r3 t)) k) && (k_cl (o_b t) k).any (o_dm t)) i) → ∀ (H : Heap) (locs : List Loc), k_H g ad (set_o_nd (set_o_pm t (k_Pm (s_th t) (o_pm t) (o_on t) (s_r1 t) (s_r2 t) (s_r3 t))) (k_Nm (s_th t) (o_nd t) (k_Pm (s_th t) (o_pm t) (o_on t) (s_r1 t) (s_r2 t) (s_r3 t)) (o_b t))) H → va_S (k_A g) s.heap H locs → ∀ (ls : Array Slot), lv_has ls 6 [(0, .ref (ad 5 0)), (2, .ref (ad 6 0)), (3, .int (nI 60)), (4, .int (nI i)), (1, .int (nI cn))] → W p l e rm_X3_countPromisedButDamaged s m args below meth c H locs 0 0 Q (F0 m 17 ls []) := by
    intro n
    induction n with
    | zero =>
      intro i cn hfu hi hcn
      exact absurd hfu (by omega)
    | succ n ih =>
      intro i cn hfu hi hcn H locs hW hS ls hl
      refine lv_iload hx hb dX3_countPromisedButDamaged_17 (lv_at hl 3 rfl) ?_
      refine lv_iload_n hx hb dX3_countPromisedButDamaged_19 rfl (lv_at hl 2 rfl) ?_
      refine k_icmp_ge (tgt := 59) hx hb (a := i) (b := 60) (by omega) (by decide) dX3_countPromisedButDamaged_20 (by decide) (fun h_20 => ?_) (fun h_20 => ?_)
      · refine lv_iload_n hx hb dX3_countPromisedButDamaged_59 rfl (lv_at hl 4 rfl) ?_
        exact k_ri hQ hx hb hr hlk hS hW ⟨by rw [hcn, show i = 60 by omega], rfl⟩ (Nat.le_of_ble_eq_true rfl) (Nat.le_of_ble_eq_true rfl) dX3_countPromisedButDamaged_60
      · refine lv_aload_n hx hb dX3_countPromisedButDamaged_23 rfl (lv_at hl 1 rfl) ?_
        refine lv_iload hx hb dX3_countPromisedButDamaged_24 (lv_at hl 3 rfl) ?_
        refine k_aald hx hb hK hW (kc_6 g ad (set_o_nd (set_o_pm t (k_Pm (s_th t) (o_pm t) (o_on t) (s_r1 t) (s_r2 t) (s_r3 t))) (k_Nm (s_th t) (o_nd t) (k_Pm (s_th t) (o_pm t) (o_on t) (s_r1 t) (s_r2 t) (s_r3 t)) (o_b t)))) i rfl (by omega) (by decide) dX3_countPromisedButDamaged_26 ?_
        rcases Bool.eq_false_or_eq_true (s_th t i) with hb_27 | hb_27
        · refine k_tov (y := .ref (ad 25 i)) (congrArg va_rf (if_pos hb_27)) ?_
          refine lv_astore (lv' := [(5, .ref (ad 25 i)), (0, .ref (ad 5 0)), (2, .ref (ad 6 0)), (3, .int (nI 60)), (4, .int (nI i)), (1, .int (nI cn))]) hx hb dX3_countPromisedButDamaged_27 hl (by decide) rfl (fun ls hl => ?_)
          refine lv_aload hx hb dX3_countPromisedButDamaged_29 (lv_at hl 0 rfl) ?_
          refine lv_ifnull hx hb dX3_countPromisedButDamaged_31 ?_
          refine lv_aload hx hb dX3_countPromisedButDamaged_34 (lv_at hl 0 rfl) ?_
          refine k_getN (host := RX4) (index := 34) (own := RX3) (C := RX0) (T := TX0) (N := 11) hx hb hts hinX0 hown hK hW (kc_25 g ad (set_o_nd (set_o_pm t (k_Pm (s_th t) (o_pm t) (o_on t) (s_r1 t) (s_r2 t) (s_r3 t))) (k_Nm (s_th t) (o_nd t) (k_Pm (s_th t) (o_pm t) (o_on t) (s_r1 t) (s_r2 t) (s_r3 t)) (o_b t))) (hwf _ hb_27)) rfl 8 (by decide) (by decide +kernel) rfl (v := .int (kb ((k_Pm (s_th t) (o_pm t) (o_on t) (s_r1 t) (s_r2 t) (s_r3 t)) i))) rfl dX3_countPromisedButDamaged_36 ?_
          refine k_ifz_eq (tgt := 53) hx hb dX3_countPromisedButDamaged_39 (by decide) (fun h_39 => ?_) (fun h_39 => ?_)
          · refine lv_iinc (v := nI (i + 1)) (lv' := [(4, .int (nI (i + 1))), (5, .ref (ad 25 i)), (0, .ref (ad 5 0)), (2, .ref (ad 6 0)), (3, .int (nI 60)), (1, .int (nI cn))]) hx hb dX3_countPromisedButDamaged_53 hl (k := 4) rfl (nI_add _ _) (by decide) rfl (fun ls hl => ?_)
            refine lv_goto (tgt := 17) hx hb dX3_countPromisedButDamaged_56 (by decide) ?_
            exact ih (i + 1) cn (by omega) (by omega) (by rw [k_cb_n (show ((s_th t i && _) && _) = false by rw [hb_27, h_39]; rfl), hcn]) _ _ hW hS _ (lv_sub hl [2, 3, 4, 0, 5] rfl)
          · refine lv_aload hx hb dX3_countPromisedButDamaged_42 (lv_at hl 0 rfl) ?_
            refine k_ci (va_runV (As := []) (rest := []) ⟨hx, hb, hml, hown, hts⟩ (c_X0_hasDamagedChain l hlt g ad (set_o_nd (set_o_pm t (k_Pm (s_th t) (o_pm t) (o_on t) (s_r1 t) (s_r2 t) (s_r3 t))) (k_Nm (s_th t) (o_nd t) (k_Pm (s_th t) (o_pm t) (o_on t) (s_r1 t) (s_r2 t) (s_r3 t)) (o_b t))) i (hwf _ hb_27) hbs) (cwV 0 hts gX3_countPromisedButDamaged_X0_hasDamagedChain rfl rfl rfl (by decide +kernel) ⟨(Nat.le_of_ble_eq_true rfl), (Nat.le_of_ble_eq_true rfl)⟩) ⟨k_blind, k_recv hK hW (kc_25 g ad (set_o_nd (set_o_pm t (k_Pm (s_th t) (o_pm t) (o_on t) (s_r1 t) (s_r2 t) (s_r3 t))) (k_Nm (s_th t) (o_nd t) (k_Pm (s_th t) (o_pm t) (o_on t) (s_r1 t) (s_r2 t) (s_r3 t)) (o_b t))) (hwf _ hb_27)) rfl, fun U hU hw => ⟨rfl, k_I.of hK hZ hN hS hW hU hw⟩⟩ rfl rfl hl.1 rfl (lv_room (Nat.le_of_ble_eq_true rfl)) dX3_countPromisedButDamaged_44 ⟨(Nat.le_of_ble_eq_true rfl), (Nat.le_of_ble_eq_true rfl)⟩) hS (fun r u H locs hpo hW hS => ?_)
            obtain ⟨hr9, hu9⟩ := hpo; replace hu9 := hu9.symm; subst hu9; replace hr9 := hr9.symm; subst hr9
            refine k_ifz_eq (tgt := 53) hx hb dX3_countPromisedButDamaged_47 (by decide) (fun h_47 => ?_) (fun h_47 => ?_)
            · refine lv_iinc (v := nI (i + 1)) (lv' := [(4, .int (nI (i + 1))), (5, .ref (ad 25 i)), (0, .ref (ad 5 0)), (2, .ref (ad 6 0)), (3, .int (nI 60)), (1, .int (nI cn))]) hx hb dX3_countPromisedButDamaged_53 hl (k := 4) rfl (nI_add _ _) (by decide) rfl (fun ls hl => ?_)
              refine lv_goto (tgt := 17) hx hb dX3_countPromisedButDamaged_56 (by decide) ?_
              exact ih (i + 1) cn (by omega) (by omega) (by rw [k_cb_n (show ((s_th t i && _) && _) = false by rw [hb_27, h_39, h_47]; rfl), hcn]) _ _ hW hS _ (lv_sub hl [2, 3, 4, 0, 5] rfl)
            · refine lv_iinc (v := nI (cn + 1)) (lv' := [(1, .int (nI (cn + 1))), (5, .ref (ad 25 i)), (0, .ref (ad 5 0)), (2, .ref (ad 6 0)), (3, .int (nI 60)), (4, .int (nI i))]) hx hb dX3_countPromisedButDamaged_50 hl (k := 5) rfl (nI_add _ _) (by decide) rfl (fun ls hl => ?_)
              refine lv_iinc (v := nI (i + 1)) (lv' := [(4, .int (nI (i + 1))), (1, .int (nI (cn + 1))), (5, .ref (ad 25 i)), (0, .ref (ad 5 0)), (2, .ref (ad 6 0)), (3, .int (nI 60))]) hx hb dX3_countPromisedButDamaged_53 hl (k := 5) rfl (nI_add _ _) (by decide) rfl (fun ls hl => ?_)
              refine lv_goto (tgt := 17) hx hb dX3_countPromisedButDamaged_56 (by decide) ?_
              exact ih (i + 1) (cn + 1) (by omega) (by omega) (by rw [k_cb_y (show ((s_th t i && _) && _) = true by rw [hb_27, h_39, h_47]; rfl), hcn]) _ _ hW hS _ (lv_sub hl [3, 4, 5, 0, 1] rfl)
        · refine k_tov (y := .null) (congrArg va_rf (if_neg (fun q => absurd (hb_27.symm.trans q) (by decide)))) ?_
          refine lv_astoreN (lv' := [(5, .null), (0, .ref (ad 5 0)), (2, .ref (ad 6 0)), (3, .int (nI 60)), (4, .int (nI i)), (1, .int (nI cn))]) hx hb dX3_countPromisedButDamaged_27 hl (by decide) rfl (fun ls hl => ?_)
          refine lv_aloadN hx hb dX3_countPromisedButDamaged_29 (lv_at hl 0 rfl) ?_
          refine lv_ifnullN (tgt := 53) hx hb dX3_countPromisedButDamaged_31 (by decide) ?_
          refine lv_iinc (v := nI (i + 1)) (lv' := [(4, .int (nI (i + 1))), (5, .null), (0, .ref (ad 5 0)), (2, .ref (ad 6 0)), (3, .int (nI 60)), (1, .int (nI cn))]) hx hb dX3_countPromisedButDamaged_53 hl (k := 4) rfl (nI_add _ _) (by decide) rfl (fun ls hl => ?_)
          refine lv_goto (tgt := 17) hx hb dX3_countPromisedButDamaged_56 (by decide) ?_
          exact ih (i + 1) cn (by omega) (by omega) (by rw [k_cb_n (show ((s_th t i && _) && _) = false by rw [hb_27]; rfl), hcn]) _ _ hW hS _ (lv_sub hl [2, 3, 4, 0, 5] rfl)
  exact hloop_17 61 0 0 (by omega) (by omega) rfl _ _ hW hS _ (lv_sub hl [4, 2, 1, 0, 3] rfl)
abbrev rm_X3_latestProvedDay : Room := { frames := 1, cells := 0, slots := 0, locals := 21 }
set_option maxRecDepth 100000 in
set_option maxHeartbeats 4000000 in
theorem c_X3_latestProvedDay (l : Launch) (hlt : l.stackTraces = false) (g : k_g) (ad : k_AD) (t : k_T) (hwf : ∀ j, s_th t j = true → j < o_n t) : Met l yX3_latestProvedDay wsX3_latestProvedDay rm_X3_latestProvedDay (va_Pc [.ref (ad 5 0)] (k_I g (k_ct g ad t) ad)) (va_Qi (fun r u => r = k_lp (fun k => (s_th t) k && (o_pv t) k) (o_on t) 60 ∧ u = t) (fun u U => k_H g ad u U.heap) (k_A g)) 0 0 (k_A g) := by
  refine k_met (cc := cX3_latestProvedDay) (maxL := 6) (ret := (some .int)) (by decide) rfl (Nat.le_of_ble_eq_true rfl) (fun p e s m args below meth c Q ls hQ hx hb hr hml hts hown hlk hin hK hZ hN hW hS hl => ?_)
  have hown : s.vm.findClass RX3 = some m.cls := hown
  have hW : k_H g ad t s.heap := hW
  have hl : lv_has ls 6 [(0, .ref (ad 5 0))] := hl
  have hinX0 : ∀ w ∈ wsX00, w ∈ wsX3_latestProvedDay := by decide +kernel
  have hinX3 : ∀ w ∈ wsX30, w ∈ wsX3_latestProvedDay := by decide +kernel
  refine lv_iconst (v := (-1)) hx hb dX3_latestProvedDay_0 (by decide) ?_
  refine lv_istore_n (lv' := [(1, .int (-1)), (0, .ref (ad 5 0))]) hx hb dX3_latestProvedDay_1 rfl hl (by decide) rfl (fun ls hl => ?_)
  refine lv_aload_n hx hb dX3_latestProvedDay_2 rfl (lv_at hl 1 rfl) ?_
  refine k_get (own := RX3) (C := RX3) (T := TX3) (N := 5) hx hb hts hinX3 hown hK hW (kc_5 g ad t) rfl 0 (by decide) (hts (.fieldLink RX3 11 "DrillVault$Shelf" "rows" "[LDrillVault$Copy;") (by decide +kernel)) rfl (v := .ref (ad 6 0)) rfl dX3_latestProvedDay_3 ?_
  refine lv_astore_n (lv' := [(2, .ref (ad 6 0)), (1, .int (-1)), (0, .ref (ad 5 0))]) hx hb dX3_latestProvedDay_6 rfl hl (by decide) rfl (fun ls hl => ?_)
  refine lv_aload_n hx hb dX3_latestProvedDay_7 rfl (lv_at hl 0 rfl) ?_
  refine k_alen hx hb hK hW 3 rfl (kc_6 g ad t) (v := nI 60) rfl dX3_latestProvedDay_8 ?_
  refine lv_istore_n (lv' := [(3, .int (nI 60)), (2, .ref (ad 6 0)), (1, .int (-1)), (0, .ref (ad 5 0))]) hx hb dX3_latestProvedDay_9 rfl hl (by decide) rfl (fun ls hl => ?_)
  refine lv_iconst (v := nI 0) hx hb dX3_latestProvedDay_10 (by decide) ?_
  refine lv_istore (lv' := [(4, .int (nI 0)), (3, .int (nI 60)), (2, .ref (ad 6 0)), (1, .int (-1)), (0, .ref (ad 5 0))]) hx hb dX3_latestProvedDay_11 hl (by decide) rfl (fun ls hl => ?_)
  have hloop_13 : ∀ (n : Nat) (i : Nat) (z : Int32), (60 < i + n) → (i ≤ 60) → (z = k_lp (fun k => (s_th t) k && (o_pv t) k) (o_on t) i) → ∀ (H : Heap) (locs : List Loc), k_H g ad t H → va_S (k_A g) s.heap H locs → ∀ (ls : Array Slot), lv_has ls 6 [(0, .ref (ad 5 0)), (2, .ref (ad 6 0)), (3, .int (nI 60)), (4, .int (nI i)), (1, .int z)] → W p l e rm_X3_latestProvedDay s m args below meth c H locs 0 0 Q (F0 m 13 ls []) := by
    intro n
    induction n with
    | zero =>
      intro i z hfu hi hz
      exact absurd hfu (by omega)
    | succ n ih =>
      intro i z hfu hi hz H locs hW hS ls hl
      refine lv_iload hx hb dX3_latestProvedDay_13 (lv_at hl 3 rfl) ?_
      refine lv_iload_n hx hb dX3_latestProvedDay_15 rfl (lv_at hl 2 rfl) ?_
      refine k_icmp_ge (tgt := 54) hx hb (a := i) (b := 60) (by omega) (by decide) dX3_latestProvedDay_16 (by decide) (fun h_16 => ?_) (fun h_16 => ?_)
      · refine lv_iload_n hx hb dX3_latestProvedDay_54 rfl (lv_at hl 4 rfl) ?_
        exact k_ri hQ hx hb hr hlk hS hW ⟨by rw [hz, show i = 60 by omega], rfl⟩ (Nat.le_of_ble_eq_true rfl) (Nat.le_of_ble_eq_true rfl) dX3_latestProvedDay_55
      · refine lv_aload_n hx hb dX3_latestProvedDay_19 rfl (lv_at hl 1 rfl) ?_
        refine lv_iload hx hb dX3_latestProvedDay_20 (lv_at hl 3 rfl) ?_
        refine k_aald hx hb hK hW (kc_6 g ad t) i rfl (by omega) (by decide) dX3_latestProvedDay_22 ?_
        rcases Bool.eq_false_or_eq_true (s_th t i) with hb_23 | hb_23
        · refine k_tov (y := .ref (ad 25 i)) (congrArg va_rf (if_pos hb_23)) ?_
          refine lv_astore (lv' := [(5, .ref (ad 25 i)), (0, .ref (ad 5 0)), (2, .ref (ad 6 0)), (3, .int (nI 60)), (4, .int (nI i)), (1, .int z)]) hx hb dX3_latestProvedDay_23 hl (by decide) rfl (fun ls hl => ?_)
          refine lv_aload hx hb dX3_latestProvedDay_25 (lv_at hl 0 rfl) ?_
          refine lv_ifnull hx hb dX3_latestProvedDay_27 ?_
          refine lv_aload hx hb dX3_latestProvedDay_30 (lv_at hl 0 rfl) ?_
          refine k_getN (host := RX4) (index := 69) (own := RX3) (C := RX0) (T := TX0) (N := 11) hx hb hts hinX0 hown hK hW (kc_25 g ad t (hwf _ hb_23)) rfl 7 (by decide) (by decide +kernel) rfl (v := .int (kb (o_pv t i))) rfl dX3_latestProvedDay_32 ?_
          refine k_ifz_eq (tgt := 48) hx hb dX3_latestProvedDay_35 (by decide) (fun h_35 => ?_) (fun h_35 => ?_)
          · refine lv_iinc (v := nI (i + 1)) (lv' := [(4, .int (nI (i + 1))), (5, .ref (ad 25 i)), (0, .ref (ad 5 0)), (2, .ref (ad 6 0)), (3, .int (nI 60)), (1, .int z)]) hx hb dX3_latestProvedDay_48 hl (k := 4) rfl (nI_add _ _) (by decide) rfl (fun ls hl => ?_)
            refine lv_goto (tgt := 13) hx hb dX3_latestProvedDay_51 (by decide) ?_
            exact ih (i + 1) z (by omega) (by omega) (by rw [k_lp_n (show (s_th t i && o_pv t i) = false by rw [hb_23, h_35]; rfl), hz]) _ _ hW hS _ (lv_sub hl [2, 3, 4, 0, 5] rfl)
          · refine lv_iload_n hx hb dX3_latestProvedDay_38 rfl (lv_at hl 5 rfl) ?_
            refine lv_aload hx hb dX3_latestProvedDay_39 (lv_at hl 0 rfl) ?_
            refine k_getN (host := RX4) (index := 72) (own := RX3) (C := RX0) (T := TX0) (N := 11) hx hb hts hinX0 hown hK hW (kc_25 g ad t (hwf _ hb_23)) rfl 1 (by decide) (by decide +kernel) rfl (v := .int (nI (o_on t i))) rfl dX3_latestProvedDay_41 ?_
            refine va_mmax hx hb (hml.trans hl.1.symm) hown (hts (.methodLink RX3 75 Lib.Math.max.name) (by decide +kernel)) (hts (.static Lib.Math.max.name) (by decide +kernel)) (hts (.initialized "java/lang/Math") (by decide +kernel)) (hts (.code Lib.Math.max.name Lib.Math.max.code 2 (some .int)) (by decide +kernel)) (Nat.le_of_ble_eq_true rfl) (Nat.le_of_ble_eq_true rfl) (Nat.le_of_ble_eq_true rfl) (Nat.le_of_ble_eq_true rfl) dX3_latestProvedDay_44 ?_
            refine k_toi (y := (if z < nI (o_on t i) then nI (o_on t i) else z)) rfl ?_
            refine lv_istore_n (lv' := [(1, .int (if z < nI (o_on t i) then nI (o_on t i) else z)), (5, .ref (ad 25 i)), (0, .ref (ad 5 0)), (2, .ref (ad 6 0)), (3, .int (nI 60)), (4, .int (nI i))]) hx hb dX3_latestProvedDay_47 rfl hl (by decide) rfl (fun ls hl => ?_)
            refine lv_iinc (v := nI (i + 1)) (lv' := [(4, .int (nI (i + 1))), (1, .int (if z < nI (o_on t i) then nI (o_on t i) else z)), (5, .ref (ad 25 i)), (0, .ref (ad 5 0)), (2, .ref (ad 6 0)), (3, .int (nI 60))]) hx hb dX3_latestProvedDay_48 hl (k := 5) rfl (nI_add _ _) (by decide) rfl (fun ls hl => ?_)
            refine lv_goto (tgt := 13) hx hb dX3_latestProvedDay_51 (by decide) ?_
            exact ih (i + 1) (if z < nI (o_on t i) then nI (o_on t i) else z) (by omega) (by omega) (by rw [k_lp_y (show (s_th t i && o_pv t i) = true by rw [hb_23, h_35]; rfl), hz]) _ _ hW hS _ (lv_sub hl [3, 4, 5, 0, 1] rfl)
        · refine k_tov (y := .null) (congrArg va_rf (if_neg (fun q => absurd (hb_23.symm.trans q) (by decide)))) ?_
          refine lv_astoreN (lv' := [(5, .null), (0, .ref (ad 5 0)), (2, .ref (ad 6 0)), (3, .int (nI 60)), (4, .int (nI i)), (1, .int z)]) hx hb dX3_latestProvedDay_23 hl (by decide) rfl (fun ls hl => ?_)
          refine lv_aloadN hx hb dX3_latestProvedDay_25 (lv_at hl 0 rfl) ?_
          refine lv_ifnullN (tgt := 48) hx hb dX3_latestProvedDay_27 (by decide) ?_
          refine lv_iinc (v := nI (i + 1)) (lv' := [(4, .int (nI (i + 1))), (5, .null), (0, .ref (ad 5 0)), (2, .ref (ad 6 0)), (3, .int (nI 60)), (1, .int z)]) hx hb dX3_latestProvedDay_48 hl (k := 4) rfl (nI_add _ _) (by decide) rfl (fun ls hl => ?_)
          refine lv_goto (tgt := 13) hx hb dX3_latestProvedDay_51 (by decide) ?_
          exact ih (i + 1) z (by omega) (by omega) (by rw [k_lp_n (show (s_th t i && o_pv t i) = false by rw [hb_23]; rfl), hz]) _ _ hW hS _ (lv_sub hl [2, 3, 4, 0, 5] rfl)
  exact hloop_13 61 0 (-1) (by omega) (by omega) rfl _ _ hW hS _ (lv_sub hl [4, 2, 1, 0, 3] rfl)
abbrev rm_X3_markHeld : Room := { frames := 0, cells := 0, slots := 0, locals := 0 }
set_option maxRecDepth 100000 in
set_option maxHeartbeats 4000000 in
theorem c_X3_markHeld (l : Launch) (hlt : l.stackTraces = false) (g : k_g) (ad : k_AD) (t : k_T) (z : Int32) (hwf : ∀ j, s_th t j = true → j < o_n t) (hbs : ∀ k b, k < o_n t → o_b t k = some b → b < o_n t ∧ b < k) (hn60 : o_n t ≤ 60) : Met l yX3_markHeld wsX3_markHeld rm_X3_markHeld (va_Pc [.ref (ad 5 0), .int z] (k_I g (k_ct g ad t) ad)) (va_Qv (fun u => u = set_o_hd t (k_Hd (s_th t) (o_nd t) (o_b t) (o_on t) (o_hd t) z)) (fun u U => k_H g ad u U.heap) (k_A g)) 0 0 (k_A g) := by
  refine k_met (cc := cX3_markHeld) (maxL := 6) (ret := none) (by decide) rfl (Nat.le_of_ble_eq_true rfl) (fun p e s m args below meth c Q ls hQ hx hb hr hml hts hown hlk hin hK hZ hN hW hS hl => ?_)
  have hown : s.vm.findClass RX3 = some m.cls := hown
  have hW : k_H g ad t s.heap := hW
  have hl : lv_has ls 6 [(0, .ref (ad 5 0)), (1, .int z)] := hl
  have hinX0 : ∀ w ∈ wsX00, w ∈ wsX3_markHeld := by decide +kernel
  have hinX3 : ∀ w ∈ wsX30, w ∈ wsX3_markHeld := by decide +kernel
  refine lv_aload_n hx hb dX3_markHeld_0 rfl (lv_at hl 0 rfl) ?_
  refine k_get (own := RX3) (C := RX3) (T := TX3) (N := 5) hx hb hts hinX3 hown hK hW (kc_5 g ad t) rfl 0 (by decide) (hts (.fieldLink RX3 11 "DrillVault$Shelf" "rows" "[LDrillVault$Copy;") (by decide +kernel)) rfl (v := .ref (ad 6 0)) rfl dX3_markHeld_1 ?_
  refine lv_astore_n (lv' := [(2, .ref (ad 6 0)), (0, .ref (ad 5 0)), (1, .int z)]) hx hb dX3_markHeld_4 rfl hl (by decide) rfl (fun ls hl => ?_)
  refine lv_aload_n hx hb dX3_markHeld_5 rfl (lv_at hl 0 rfl) ?_
  refine k_alen hx hb hK hW 3 rfl (kc_6 g ad t) (v := nI 60) rfl dX3_markHeld_6 ?_
  refine lv_istore_n (lv' := [(3, .int (nI 60)), (2, .ref (ad 6 0)), (0, .ref (ad 5 0)), (1, .int z)]) hx hb dX3_markHeld_7 rfl hl (by decide) rfl (fun ls hl => ?_)
  refine lv_iconst (v := nI 0) hx hb dX3_markHeld_8 (by decide) ?_
  refine lv_istore (lv' := [(4, .int (nI 0)), (3, .int (nI 60)), (2, .ref (ad 6 0)), (0, .ref (ad 5 0)), (1, .int z)]) hx hb dX3_markHeld_9 hl (by decide) rfl (fun ls hl => ?_)
  have hloop_11 : ∀ (n : Nat) (i : Nat) (Hd : Nat → Bool), (60 < i + n) → (i ≤ 60) → (∀ j, Hd j = if (decide (j < i) && s_th t j) = true then (fun j => o_nd t j || decide (z ≤ nI (o_on t j))) j else o_hd t j) → ∀ (H : Heap) (locs : List Loc), k_H g ad (set_o_hd t Hd) H → va_S (k_A g) s.heap H locs → ∀ (ls : Array Slot), lv_has ls 6 [(0, .ref (ad 5 0)), (1, .int z), (2, .ref (ad 6 0)), (3, .int (nI 60)), (4, .int (nI i))] → W p l e rm_X3_markHeld s m args below meth c H locs 0 0 Q (F0 m 11 ls []) := by
    intro n
    induction n with
    | zero =>
      intro i Hd hfu hi hH
      exact absurd hfu (by omega)
    | succ n ih =>
      intro i Hd hfu hi hH H locs hW hS ls hl
      refine lv_iload hx hb dX3_markHeld_11 (lv_at hl 4 rfl) ?_
      refine lv_iload_n hx hb dX3_markHeld_13 rfl (lv_at hl 3 rfl) ?_
      refine k_icmp_ge (tgt := 61) hx hb (a := i) (b := 60) (by omega) (by decide) dX3_markHeld_14 (by decide) (fun h_14 => ?_) (fun h_14 => ?_)
      · have hHe := k_rs_e hH hwf (show o_n t ≤ i by omega)
        subst hHe
        have hW : k_H g ad (set_o_hd t (k_H0 (s_th t) (o_nd t) (o_on t) (o_hd t) z)) H := hW
        refine lv_aload_n hx hb dX3_markHeld_61 rfl (lv_at hl 0 rfl) ?_
        refine k_get (own := RX3) (C := RX3) (T := TX3) (N := 5) hx hb hts hinX3 hown hK hW (kc_5 g ad (set_o_hd t (k_H0 (s_th t) (o_nd t) (o_on t) (o_hd t) z))) rfl 0 (by decide) (hts (.fieldLink RX3 11 "DrillVault$Shelf" "rows" "[LDrillVault$Copy;") (by decide +kernel)) rfl (v := .ref (ad 6 0)) rfl dX3_markHeld_62 ?_
        refine k_alen hx hb hK hW 3 rfl (kc_6 g ad (set_o_hd t (k_H0 (s_th t) (o_nd t) (o_on t) (o_hd t) z))) (v := nI 60) rfl dX3_markHeld_65 ?_
        refine lv_iconst (v := nI 1) hx hb dX3_markHeld_66 (by decide) ?_
        refine lv_isub hx hb dX3_markHeld_67 ?_
        refine k_toi (k_m1 _) ?_
        refine lv_istore_n (lv' := [(2, .int (nI 60 + (-1))), (0, .ref (ad 5 0)), (1, .int z), (3, .int (nI 60)), (4, .int (nI i))]) hx hb dX3_markHeld_68 rfl hl (by decide) rfl (fun ls hl => ?_)
        have hloop_69 : ∀ (r : Nat) (Hd : Nat → Bool), (r ≤ 60) → (k_hl (s_th t) (o_b t) 60 (k_H0 (s_th t) (o_nd t) (o_on t) (o_hd t) z) = k_hl (s_th t) (o_b t) r Hd) → ∀ (H : Heap) (locs : List Loc), k_H g ad (set_o_hd t Hd) H → va_S (k_A g) s.heap H locs → ∀ (ls : Array Slot), lv_has ls 6 [(0, .ref (ad 5 0)), (2, .int (nI r + (-1)))] → W p l e rm_X3_markHeld s m args below meth c H locs 0 0 Q (F0 m 69 ls []) := by
          intro r
          induction r with
          | zero =>
            intro Hd hr60 hH H locs hW hS ls hl
            refine lv_iload_n hx hb dX3_markHeld_69 rfl (lv_at hl 1 rfl) ?_
            refine lv_if_lt (tgt := 112) hx hb dX3_markHeld_70 (by decide) (fun h_70 => ?_) (fun h_70 => absurd k_n0 h_70)
            exact k_rv hQ hx hb hr hlk hS hW (by rw [show (k_Hd (s_th t) (o_nd t) (o_b t) (o_on t) (o_hd t) z) = Hd from hH]) (Nat.le_of_ble_eq_true rfl) (Nat.le_of_ble_eq_true rfl) dX3_markHeld_112
          | succ r ih =>
            intro Hd hr60 hH H locs hW hS ls hl
            rw [k_dec] at hl
            refine lv_iload_n hx hb dX3_markHeld_69 rfl (lv_at hl 1 rfl) ?_
            refine k_if_lt (tgt := 112) hx hb (by omega) dX3_markHeld_70 (by decide) ?_
            refine lv_aload_n hx hb dX3_markHeld_73 rfl (lv_at hl 0 rfl) ?_
            refine k_get (own := RX3) (C := RX3) (T := TX3) (N := 5) hx hb hts hinX3 hown hK hW (kc_5 g ad (set_o_hd t Hd)) rfl 0 (by decide) (hts (.fieldLink RX3 11 "DrillVault$Shelf" "rows" "[LDrillVault$Copy;") (by decide +kernel)) rfl (v := .ref (ad 6 0)) rfl dX3_markHeld_74 ?_
            refine lv_iload_n hx hb dX3_markHeld_77 rfl (lv_at hl 1 rfl) ?_
            refine k_aald hx hb hK hW (kc_6 g ad (set_o_hd t Hd)) r rfl (by omega) (by decide) dX3_markHeld_78 ?_
            rcases Bool.eq_false_or_eq_true (s_th t r) with hb_79 | hb_79
            · refine k_tov (y := .ref (ad 25 r)) (congrArg va_rf (if_pos hb_79)) ?_
              refine lv_astore_n (lv' := [(3, .ref (ad 25 r)), (0, .ref (ad 5 0)), (2, .int (nI r))]) hx hb dX3_markHeld_79 rfl hl (by decide) rfl (fun ls hl => ?_)
              refine lv_aload_n hx hb dX3_markHeld_80 rfl (lv_at hl 0 rfl) ?_
              refine lv_ifnull hx hb dX3_markHeld_81 ?_
              refine lv_aload_n hx hb dX3_markHeld_84 rfl (lv_at hl 0 rfl) ?_
              refine k_getN (host := RX4) (index := 66) (own := RX3) (C := RX0) (T := TX0) (N := 11) hx hb hts hinX0 hown hK hW (kc_25 g ad (set_o_hd t Hd) (hwf _ hb_79)) rfl 10 (by decide) (by decide +kernel) rfl (v := .int (kb (Hd r))) rfl dX3_markHeld_85 ?_
              refine k_ifz_eq (tgt := 106) hx hb dX3_markHeld_88 (by decide) (fun h_88 => ?_) (fun h_88 => ?_)
              · refine lv_iinc (v := nI r + (-1)) (lv' := [(2, .int (nI r + (-1))), (3, .ref (ad 25 r)), (0, .ref (ad 5 0))]) hx hb dX3_markHeld_106 hl (k := 2) rfl rfl (by decide) rfl (fun ls hl => ?_)
                refine lv_goto (tgt := 69) hx hb dX3_markHeld_109 (by decide) ?_
                exact ih Hd (by omega) (hH.trans (k_hl_n (fun q => by have h9 := h_88.symm.trans q.2; cases h9))) _ _ hW hS _ (lv_sub hl [2, 0] rfl)
              · refine lv_aload_n hx hb dX3_markHeld_91 rfl (lv_at hl 0 rfl) ?_
                refine k_getN (host := RX4) (index := 81) (own := RX3) (C := RX0) (T := TX0) (N := 11) hx hb hts hinX0 hown hK hW (kc_25 g ad (set_o_hd t Hd) (hwf _ hb_79)) rfl 2 (by decide) (by decide +kernel) rfl (v := va_rf ((o_b t r).map (ad 25))) rfl dX3_markHeld_92 ?_
                rcases hob_95 : o_b t r with _ | b_95
                · refine k_tov (y := .null) (by first | rfl | (rw [hob_95]; rfl)) ?_
                  refine lv_ifnullN (tgt := 106) hx hb dX3_markHeld_95 (by decide) ?_
                  refine lv_iinc (v := nI r + (-1)) (lv' := [(2, .int (nI r + (-1))), (3, .ref (ad 25 r)), (0, .ref (ad 5 0))]) hx hb dX3_markHeld_106 hl (k := 2) rfl rfl (by decide) rfl (fun ls hl => ?_)
                  refine lv_goto (tgt := 69) hx hb dX3_markHeld_109 (by decide) ?_
                  exact ih Hd (by omega) (hH.trans (k_hl_z hob_95)) _ _ hW hS _ (lv_sub hl [2, 0] rfl)
                · refine k_tov (y := .ref (ad 25 b_95)) (by first | rfl | (rw [hob_95]; rfl)) ?_
                  refine lv_ifnull hx hb dX3_markHeld_95 ?_
                  refine lv_aload_n hx hb dX3_markHeld_98 rfl (lv_at hl 0 rfl) ?_
                  refine k_getN (host := RX4) (index := 81) (own := RX3) (C := RX0) (T := TX0) (N := 11) hx hb hts hinX0 hown hK hW (kc_25 g ad (set_o_hd t Hd) (hwf _ hb_79)) rfl 2 (by decide) (by decide +kernel) rfl (v := va_rf ((o_b t r).map (ad 25))) rfl dX3_markHeld_99 ?_
                  refine k_tov (y := .ref (ad 25 b_95)) (by first | rfl | (rw [hob_95]; rfl)) ?_
                  refine lv_iconst (v := nI 1) hx hb dX3_markHeld_102 (by decide) ?_
                  refine k_putN (host := RX4) (index := 66) (own := RX3) (C := RX0) (T := TX0) (N := 11) hx hb hts hinX0 tyX0 tyX0_ok nmX0 hown hK hW hS (kc_25 g ad (set_o_hd t Hd) (hbs _ _ (hwf _ hb_79) hob_95).1) rfl 10 (by decide) (by decide +kernel) rfl rfl (ty := tyX0 10) (v := .int (nI 1)) (tyX0_ok 10 (by decide)) rfl rfl (Nat.le_of_ble_eq_true rfl) dX3_markHeld_103 (fun H locs hW hS => ?_)
                  have hW : k_H g ad (set_o_hd t (va_up Hd b_95 true)) H := kt_o_hd (t := set_o_hd t Hd) b_95 (hbs _ _ (hwf _ hb_79) hob_95).1 true rfl hW
                  refine lv_iinc (v := nI r + (-1)) (lv' := [(2, .int (nI r + (-1))), (3, .ref (ad 25 r)), (0, .ref (ad 5 0))]) hx hb dX3_markHeld_106 hl (k := 2) rfl rfl (by decide) rfl (fun ls hl => ?_)
                  refine lv_goto (tgt := 69) hx hb dX3_markHeld_109 (by decide) ?_
                  exact ih (va_up Hd b_95 true) (by omega) (hH.trans (k_hl_y hb_79 h_88 hob_95)) _ _ hW hS _ (lv_sub hl [2, 0] rfl)
            · refine k_tov (y := .null) (congrArg va_rf (if_neg (fun q => absurd (hb_79.symm.trans q) (by decide)))) ?_
              refine lv_astore_nN (lv' := [(3, .null), (0, .ref (ad 5 0)), (2, .int (nI r))]) hx hb dX3_markHeld_79 rfl hl (by decide) rfl (fun ls hl => ?_)
              refine lv_aload_nN hx hb dX3_markHeld_80 rfl (lv_at hl 0 rfl) ?_
              refine lv_ifnullN (tgt := 106) hx hb dX3_markHeld_81 (by decide) ?_
              refine lv_iinc (v := nI r + (-1)) (lv' := [(2, .int (nI r + (-1))), (3, .null), (0, .ref (ad 5 0))]) hx hb dX3_markHeld_106 hl (k := 2) rfl rfl (by decide) rfl (fun ls hl => ?_)
              refine lv_goto (tgt := 69) hx hb dX3_markHeld_109 (by decide) ?_
              exact ih Hd (by omega) (hH.trans (k_hl_n (fun q => by have h9 := hb_79.symm.trans q.1; cases h9))) _ _ hW hS _ (lv_sub hl [2, 0] rfl)
        exact hloop_69 60 (k_H0 (s_th t) (o_nd t) (o_on t) (o_hd t) z) (Nat.le_refl _) rfl _ _ hW hS _ (lv_sub hl [1, 0] rfl)
      · refine lv_aload_n hx hb dX3_markHeld_17 rfl (lv_at hl 2 rfl) ?_
        refine lv_iload hx hb dX3_markHeld_18 (lv_at hl 4 rfl) ?_
        refine k_aald hx hb hK hW (kc_6 g ad (set_o_hd t Hd)) i rfl (by omega) (by decide) dX3_markHeld_20 ?_
        rcases Bool.eq_false_or_eq_true (s_th t i) with hb_21 | hb_21
        · refine k_tov (y := .ref (ad 25 i)) (congrArg va_rf (if_pos hb_21)) ?_
          refine lv_astore (lv' := [(5, .ref (ad 25 i)), (0, .ref (ad 5 0)), (1, .int z), (2, .ref (ad 6 0)), (3, .int (nI 60)), (4, .int (nI i))]) hx hb dX3_markHeld_21 hl (by decide) rfl (fun ls hl => ?_)
          refine lv_aload hx hb dX3_markHeld_23 (lv_at hl 0 rfl) ?_
          refine lv_ifnull hx hb dX3_markHeld_25 ?_
          refine lv_aload hx hb dX3_markHeld_28 (lv_at hl 0 rfl) ?_
          refine lv_aload hx hb dX3_markHeld_30 (lv_at hl 0 rfl) ?_
          refine k_getN (host := RX4) (index := 38) (own := RX3) (C := RX0) (T := TX0) (N := 11) hx hb hts hinX0 hown hK hW (kc_25 g ad (set_o_hd t Hd) (hwf _ hb_21)) rfl 9 (by decide) (by decide +kernel) rfl (v := .int (kb (o_nd t i))) rfl dX3_markHeld_32 ?_
          refine k_ifz_ne (tgt := 47) hx hb dX3_markHeld_35 (by decide) (fun h_35 => ?_) (fun h_35 => ?_)
          · refine lv_iconst (v := nI 1) hx hb dX3_markHeld_47 (by decide) ?_
            refine lv_goto (tgt := 52) hx hb dX3_markHeld_48 (by decide) ?_
            refine k_putN (host := RX4) (index := 66) (own := RX3) (C := RX0) (T := TX0) (N := 11) hx hb hts hinX0 tyX0 tyX0_ok nmX0 hown hK hW hS (kc_25 g ad (set_o_hd t Hd) (hwf _ hb_21)) rfl 10 (by decide) (by decide +kernel) rfl rfl (ty := tyX0 10) (v := .int (nI 1)) (tyX0_ok 10 (by decide)) rfl rfl (Nat.le_of_ble_eq_true rfl) dX3_markHeld_52 (fun H locs hW hS => ?_)
            have hW : k_H g ad (set_o_hd t (va_up Hd i true)) H := kt_o_hd (t := set_o_hd t Hd) i (hwf _ hb_21) true rfl hW
            refine lv_iinc (v := nI (i + 1)) (lv' := [(4, .int (nI (i + 1))), (5, .ref (ad 25 i)), (0, .ref (ad 5 0)), (1, .int z), (2, .ref (ad 6 0)), (3, .int (nI 60))]) hx hb dX3_markHeld_55 hl (k := 5) rfl (nI_add _ _) (by decide) rfl (fun ls hl => ?_)
            refine lv_goto (tgt := 11) hx hb dX3_markHeld_58 (by decide) ?_
            exact ih (i + 1) (va_up Hd i true) (by omega) (by omega) (k_rs hH hb_21 (k_or_t (Or.inl h_35))) _ _ hW hS _ (lv_sub hl [2, 3, 4, 5, 0] rfl)
          · refine lv_aload hx hb dX3_markHeld_38 (lv_at hl 0 rfl) ?_
            refine k_getN (host := RX4) (index := 72) (own := RX3) (C := RX0) (T := TX0) (N := 11) hx hb hts hinX0 hown hK hW (kc_25 g ad (set_o_hd t Hd) (hwf _ hb_21)) rfl 1 (by decide) (by decide +kernel) rfl (v := .int (nI (o_on t i))) rfl dX3_markHeld_40 ?_
            refine lv_iload_n hx hb dX3_markHeld_43 rfl (lv_at hl 2 rfl) ?_
            refine lv_icmp_lt (tgt := 51) hx hb dX3_markHeld_44 (by decide) (fun h_44 => ?_) (fun h_44 => ?_)
            · refine lv_iconst (v := nI 0) hx hb dX3_markHeld_51 (by decide) ?_
              refine k_putN (host := RX4) (index := 66) (own := RX3) (C := RX0) (T := TX0) (N := 11) hx hb hts hinX0 tyX0 tyX0_ok nmX0 hown hK hW hS (kc_25 g ad (set_o_hd t Hd) (hwf _ hb_21)) rfl 10 (by decide) (by decide +kernel) rfl rfl (ty := tyX0 10) (v := .int (nI 0)) (tyX0_ok 10 (by decide)) rfl rfl (Nat.le_of_ble_eq_true rfl) dX3_markHeld_52 (fun H locs hW hS => ?_)
              have hW : k_H g ad (set_o_hd t (va_up Hd i false)) H := kt_o_hd (t := set_o_hd t Hd) i (hwf _ hb_21) false rfl hW
              refine lv_iinc (v := nI (i + 1)) (lv' := [(4, .int (nI (i + 1))), (5, .ref (ad 25 i)), (0, .ref (ad 5 0)), (1, .int z), (2, .ref (ad 6 0)), (3, .int (nI 60))]) hx hb dX3_markHeld_55 hl (k := 5) rfl (nI_add _ _) (by decide) rfl (fun ls hl => ?_)
              refine lv_goto (tgt := 11) hx hb dX3_markHeld_58 (by decide) ?_
              exact ih (i + 1) (va_up Hd i false) (by omega) (by omega) (k_rs hH hb_21 (k_or_f h_35 h_44)) _ _ hW hS _ (lv_sub hl [2, 3, 4, 5, 0] rfl)
            · refine lv_iconst (v := nI 1) hx hb dX3_markHeld_47 (by decide) ?_
              refine lv_goto (tgt := 52) hx hb dX3_markHeld_48 (by decide) ?_
              refine k_putN (host := RX4) (index := 66) (own := RX3) (C := RX0) (T := TX0) (N := 11) hx hb hts hinX0 tyX0 tyX0_ok nmX0 hown hK hW hS (kc_25 g ad (set_o_hd t Hd) (hwf _ hb_21)) rfl 10 (by decide) (by decide +kernel) rfl rfl (ty := tyX0 10) (v := .int (nI 1)) (tyX0_ok 10 (by decide)) rfl rfl (Nat.le_of_ble_eq_true rfl) dX3_markHeld_52 (fun H locs hW hS => ?_)
              have hW : k_H g ad (set_o_hd t (va_up Hd i true)) H := kt_o_hd (t := set_o_hd t Hd) i (hwf _ hb_21) true rfl hW
              refine lv_iinc (v := nI (i + 1)) (lv' := [(4, .int (nI (i + 1))), (5, .ref (ad 25 i)), (0, .ref (ad 5 0)), (1, .int z), (2, .ref (ad 6 0)), (3, .int (nI 60))]) hx hb dX3_markHeld_55 hl (k := 5) rfl (nI_add _ _) (by decide) rfl (fun ls hl => ?_)
              refine lv_goto (tgt := 11) hx hb dX3_markHeld_58 (by decide) ?_
              exact ih (i + 1) (va_up Hd i true) (by omega) (by omega) (k_rs hH hb_21 (k_or_t (Or.inr h_44))) _ _ hW hS _ (lv_sub hl [2, 3, 4, 5, 0] rfl)
        · refine k_tov (y := .null) (congrArg va_rf (if_neg (fun q => absurd (hb_21.symm.trans q) (by decide)))) ?_
          refine lv_astoreN (lv' := [(5, .null), (0, .ref (ad 5 0)), (1, .int z), (2, .ref (ad 6 0)), (3, .int (nI 60)), (4, .int (nI i))]) hx hb dX3_markHeld_21 hl (by decide) rfl (fun ls hl => ?_)
          refine lv_aloadN hx hb dX3_markHeld_23 (lv_at hl 0 rfl) ?_
          refine lv_ifnullN (tgt := 55) hx hb dX3_markHeld_25 (by decide) ?_
          refine lv_iinc (v := nI (i + 1)) (lv' := [(4, .int (nI (i + 1))), (5, .null), (0, .ref (ad 5 0)), (1, .int z), (2, .ref (ad 6 0)), (3, .int (nI 60))]) hx hb dX3_markHeld_55 hl (k := 5) rfl (nI_add _ _) (by decide) rfl (fun ls hl => ?_)
          refine lv_goto (tgt := 11) hx hb dX3_markHeld_58 (by decide) ?_
          exact ih (i + 1) Hd (by omega) (by omega) (k_rs_n hH hb_21) _ _ hW hS _ (lv_sub hl [2, 3, 4, 5, 0] rfl)
  exact hloop_11 61 0 (o_hd t) (by omega) (by omega) k_rs_0 _ _ hW hS _ (lv_sub hl [3, 4, 2, 1, 0] rfl)
abbrev rm_X3_takeOffLoose : Room := { frames := 3, cells := 0, slots := 0, locals := 71 }
set_option maxRecDepth 100000 in
set_option maxHeartbeats 4000000 in
theorem c_X3_takeOffLoose (l : Launch) (hlt : l.stackTraces = false) (g : k_g) (ad : k_AD) (t : k_T) (hwf : ∀ j, s_th t j = true → j < o_n t) (hbs : ∀ k b, k < o_n t → o_b t k = some b → b < o_n t ∧ b < k) (hth : ∀ j b, s_th t j = true → o_b t j = some b → s_th t b = true) (hn60 : o_n t ≤ 60) (hon : ∀ j, j < o_n t → o_on t j ≤ 360) (hr1 : s_r1 t ≤ 30) (hr2 : s_r2 t ≤ 30) (hr3 : s_r3 t ≤ 30) : Met l yX3_takeOffLoose wsX3_takeOffLoose rm_X3_takeOffLoose (va_Pc [.ref (ad 5 0)] (k_I g (k_ct g ad t) ad)) (va_Qi (fun r u => r = nI (k_sm (fun k => (s_th t) k && !(k_Hd (s_th t) (k_Nm (s_th t) (o_nd t) (k_Pm (s_th t) (o_pm t) (o_on t) (s_r1 t) (s_r2 t) (s_r3 t)) (o_b t)) (o_b t) (o_on t) (o_hd t) (k_lp (fun k => (s_th t) k && (o_pv t) k) (o_on t) 60)) k) (fun k => (o_kc t) k + 1) 60) ∧ u = set_s_th (set_o_hd (set_o_nd (set_o_pm t (k_Pm (s_th t) (o_pm t) (o_on t) (s_r1 t) (s_r2 t) (s_r3 t))) (k_Nm (s_th t) (o_nd t) (k_Pm (s_th t) (o_pm t) (o_on t) (s_r1 t) (s_r2 t) (s_r3 t)) (o_b t))) (k_Hd (s_th t) (k_Nm (s_th t) (o_nd t) (k_Pm (s_th t) (o_pm t) (o_on t) (s_r1 t) (s_r2 t) (s_r3 t)) (o_b t)) (o_b t) (o_on t) (o_hd t) (k_lp (fun k => (s_th t) k && (o_pv t) k) (o_on t) 60))) (fun j => (s_th t) j && (k_Hd (s_th t) (k_Nm (s_th t) (o_nd t) (k_Pm (s_th t) (o_pm t) (o_on t) (s_r1 t) (s_r2 t) (s_r3 t)) (o_b t)) (o_b t) (o_on t) (o_hd t) (k_lp (fun k => (s_th t) k && (o_pv t) k) (o_on t) 60)) j)) (fun u U => k_H g ad u U.heap) (k_A g)) 0 0 (k_A g) := by
  refine k_met (cc := cX3_takeOffLoose) (maxL := 4) (ret := (some .int)) (by decide) rfl (Nat.le_of_ble_eq_true rfl) (fun p e s m args below meth c Q ls hQ hx hb hr hml hts hown hlk hin hK hZ hN hW hS hl => ?_)
  have hown : s.vm.findClass RX3 = some m.cls := hown
  have hW : k_H g ad t s.heap := hW
  have hl : lv_has ls 4 [(0, .ref (ad 5 0))] := hl
  have hinX0 : ∀ w ∈ wsX00, w ∈ wsX3_takeOffLoose := by decide +kernel
  have hinX3 : ∀ w ∈ wsX30, w ∈ wsX3_takeOffLoose := by decide +kernel
  refine lv_aload_n hx hb dX3_takeOffLoose_0 rfl (lv_at hl 0 rfl) ?_
  refine k_cv (va_runV (As := []) (rest := []) ⟨hx, hb, hml, hown, hts⟩ (c_X3_markGenerations l hlt g ad t hwf hbs hth hn60 hon hr1 hr2 hr3) (cwV 0 hts gX3_takeOffLoose_X3_markGenerations rfl rfl rfl (by decide +kernel) ⟨(Nat.le_of_ble_eq_true rfl), (Nat.le_of_ble_eq_true rfl)⟩) ⟨k_blind, k_recv hK hW (kc_5 g ad t) rfl, fun U hU hw => ⟨rfl, k_I.of hK hZ hN hS hW hU hw⟩⟩ rfl rfl hl.1 rfl (lv_room (Nat.le_of_ble_eq_true rfl)) dX3_takeOffLoose_1 ⟨(Nat.le_of_ble_eq_true rfl), (Nat.le_of_ble_eq_true rfl)⟩) hS (fun u H locs hpo hW hS => ?_)
  have hu9 := hpo.symm; subst hu9
  have hW : k_H g ad (set_o_nd (set_o_pm t (k_Pm (s_th t) (o_pm t) (o_on t) (s_r1 t) (s_r2 t) (s_r3 t))) (k_Nm (s_th t) (o_nd t) (k_Pm (s_th t) (o_pm t) (o_on t) (s_r1 t) (s_r2 t) (s_r3 t)) (o_b t))) H := hW
  refine lv_aload_n hx hb dX3_takeOffLoose_4 rfl (lv_at hl 0 rfl) ?_
  refine lv_aload_n hx hb dX3_takeOffLoose_5 rfl (lv_at hl 0 rfl) ?_
  refine k_ci (va_runV (As := []) (rest := [.ref (ad 5 0)]) ⟨hx, hb, hml, hown, hts⟩ (c_X3_latestProvedDay l hlt g ad (set_o_nd (set_o_pm t (k_Pm (s_th t) (o_pm t) (o_on t) (s_r1 t) (s_r2 t) (s_r3 t))) (k_Nm (s_th t) (o_nd t) (k_Pm (s_th t) (o_pm t) (o_on t) (s_r1 t) (s_r2 t) (s_r3 t)) (o_b t))) hwf) (cwV 0 hts gX3_takeOffLoose_X3_latestProvedDay rfl rfl rfl (by decide +kernel) ⟨(Nat.le_of_ble_eq_true rfl), (Nat.le_of_ble_eq_true rfl)⟩) ⟨k_blind, k_recv hK hW (kc_5 g ad (set_o_nd (set_o_pm t (k_Pm (s_th t) (o_pm t) (o_on t) (s_r1 t) (s_r2 t) (s_r3 t))) (k_Nm (s_th t) (o_nd t) (k_Pm (s_th t) (o_pm t) (o_on t) (s_r1 t) (s_r2 t) (s_r3 t)) (o_b t)))) rfl, fun U hU hw => ⟨rfl, k_I.of hK hZ hN hS hW hU hw⟩⟩ rfl rfl hl.1 rfl (lv_room (Nat.le_of_ble_eq_true rfl)) dX3_takeOffLoose_6 ⟨(Nat.le_of_ble_eq_true rfl), (Nat.le_of_ble_eq_true rfl)⟩) hS (fun r u H locs hpo hW hS => ?_)
  obtain ⟨hr9, hu9⟩ := hpo; replace hu9 := hu9.symm; subst hu9; replace hr9 := hr9.symm; subst hr9
  refine k_cv (va_runV (As := [.int (k_lp (fun k => (s_th t) k && (o_pv t) k) (o_on t) 60)]) (rest := []) ⟨hx, hb, hml, hown, hts⟩ (c_X3_markHeld l hlt g ad (set_o_nd (set_o_pm t (k_Pm (s_th t) (o_pm t) (o_on t) (s_r1 t) (s_r2 t) (s_r3 t))) (k_Nm (s_th t) (o_nd t) (k_Pm (s_th t) (o_pm t) (o_on t) (s_r1 t) (s_r2 t) (s_r3 t)) (o_b t))) (k_lp (fun k => (s_th t) k && (o_pv t) k) (o_on t) 60) hwf hbs hn60) (cwV 1 hts gX3_takeOffLoose_X3_markHeld rfl rfl rfl (by decide +kernel) ⟨(Nat.le_of_ble_eq_true rfl), (Nat.le_of_ble_eq_true rfl)⟩) ⟨k_blind, k_recv hK hW (kc_5 g ad (set_o_nd (set_o_pm t (k_Pm (s_th t) (o_pm t) (o_on t) (s_r1 t) (s_r2 t) (s_r3 t))) (k_Nm (s_th t) (o_nd t) (k_Pm (s_th t) (o_pm t) (o_on t) (s_r1 t) (s_r2 t) (s_r3 t)) (o_b t)))) rfl, fun U hU hw => ⟨rfl, k_I.of hK hZ hN hS hW hU hw⟩⟩ rfl rfl hl.1 rfl (lv_room (Nat.le_of_ble_eq_true rfl)) dX3_takeOffLoose_9 ⟨(Nat.le_of_ble_eq_true rfl), (Nat.le_of_ble_eq_true rfl)⟩) hS (fun u H locs hpo hW hS => ?_)
  have hu9 := hpo.symm; subst hu9
  have hW : k_H g ad (set_o_hd (set_o_nd (set_o_pm t (k_Pm (s_th t) (o_pm t) (o_on t) (s_r1 t) (s_r2 t) (s_r3 t))) (k_Nm (s_th t) (o_nd t) (k_Pm (s_th t) (o_pm t) (o_on t) (s_r1 t) (s_r2 t) (s_r3 t)) (o_b t))) (k_Hd (s_th t) (k_Nm (s_th t) (o_nd t) (k_Pm (s_th t) (o_pm t) (o_on t) (s_r1 t) (s_r2 t) (s_r3 t)) (o_b t)) (o_b t) (o_on t) (o_hd t) (k_lp (fun k => (s_th t) k && (o_pv t) k) (o_on t) 60))) H := hW
  refine lv_iconst (v := nI 0) hx hb dX3_takeOffLoose_12 (by decide) ?_
  refine lv_istore_n (lv' := [(1, .int (nI 0)), (0, .ref (ad 5 0))]) hx hb dX3_takeOffLoose_13 rfl hl (by decide) rfl (fun ls hl => ?_)
  refine lv_iconst (v := nI 0) hx hb dX3_takeOffLoose_14 (by decide) ?_
  refine lv_istore_n (lv' := [(2, .int (nI 0)), (1, .int (nI 0)), (0, .ref (ad 5 0))]) hx hb dX3_takeOffLoose_15 rfl hl (by decide) rfl (fun ls hl => ?_)
  have hloop_16 : ∀ (n : Nat) (i : Nat) (th1 : Nat → Bool) (cn : Nat), (60 < i + n) → (i ≤ 60) → (∀ j, th1 j = if j < i then (s_th t j && (k_Hd (s_th t) (k_Nm (s_th t) (o_nd t) (k_Pm (s_th t) (o_pm t) (o_on t) (s_r1 t) (s_r2 t) (s_r3 t)) (o_b t)) (o_b t) (o_on t) (o_hd t) (k_lp (fun k => (s_th t) k && (o_pv t) k) (o_on t) 60)) j) else s_th t j) → (cn = k_sm (fun k => (s_th t) k && !(k_Hd (s_th t) (k_Nm (s_th t) (o_nd t) (k_Pm (s_th t) (o_pm t) (o_on t) (s_r1 t) (s_r2 t) (s_r3 t)) (o_b t)) (o_b t) (o_on t) (o_hd t) (k_lp (fun k => (s_th t) k && (o_pv t) k) (o_on t) 60)) k) (fun k => (o_kc t) k + 1) i) → ∀ (H : Heap) (locs : List Loc), k_H g ad (set_s_th (set_o_hd (set_o_nd (set_o_pm t (k_Pm (s_th t) (o_pm t) (o_on t) (s_r1 t) (s_r2 t) (s_r3 t))) (k_Nm (s_th t) (o_nd t) (k_Pm (s_th t) (o_pm t) (o_on t) (s_r1 t) (s_r2 t) (s_r3 t)) (o_b t))) (k_Hd (s_th t) (k_Nm (s_th t) (o_nd t) (k_Pm (s_th t) (o_pm t) (o_on t) (s_r1 t) (s_r2 t) (s_r3 t)) (o_b t)) (o_b t) (o_on t) (o_hd t) (k_lp (fun k => (s_th t) k && (o_pv t) k) (o_on t) 60))) th1) H → va_S (k_A g) s.heap H locs → ∀ (ls : Array Slot), lv_has ls 4 [(0, .ref (ad 5 0)), (1, .int (nI cn)), (2, .int (nI i))] → W p l e rm_X3_takeOffLoose s m args below meth c H locs 0 0 Q (F0 m 16 ls []) := by
    intro n
    induction n with
    | zero =>
      intro i th1 cn hfu hi hT hcn
      exact absurd hfu (by omega)
    | succ n ih =>
      intro i th1 cn hfu hi hT hcn H locs hW hS ls hl
      refine lv_iload_n hx hb dX3_takeOffLoose_16 rfl (lv_at hl 2 rfl) ?_
      refine lv_aload_n hx hb dX3_takeOffLoose_17 rfl (lv_at hl 0 rfl) ?_
      refine k_get (own := RX3) (C := RX3) (T := TX3) (N := 5) hx hb hts hinX3 hown hK hW (kc_5 g ad (set_s_th (set_o_hd (set_o_nd (set_o_pm t (k_Pm (s_th t) (o_pm t) (o_on t) (s_r1 t) (s_r2 t) (s_r3 t))) (k_Nm (s_th t) (o_nd t) (k_Pm (s_th t) (o_pm t) (o_on t) (s_r1 t) (s_r2 t) (s_r3 t)) (o_b t))) (k_Hd (s_th t) (k_Nm (s_th t) (o_nd t) (k_Pm (s_th t) (o_pm t) (o_on t) (s_r1 t) (s_r2 t) (s_r3 t)) (o_b t)) (o_b t) (o_on t) (o_hd t) (k_lp (fun k => (s_th t) k && (o_pv t) k) (o_on t) 60))) th1)) rfl 0 (by decide) (hts (.fieldLink RX3 11 "DrillVault$Shelf" "rows" "[LDrillVault$Copy;") (by decide +kernel)) rfl (v := .ref (ad 6 0)) rfl dX3_takeOffLoose_18 ?_
      refine k_alen hx hb hK hW 3 rfl (kc_6 g ad (set_s_th (set_o_hd (set_o_nd (set_o_pm t (k_Pm (s_th t) (o_pm t) (o_on t) (s_r1 t) (s_r2 t) (s_r3 t))) (k_Nm (s_th t) (o_nd t) (k_Pm (s_th t) (o_pm t) (o_on t) (s_r1 t) (s_r2 t) (s_r3 t)) (o_b t))) (k_Hd (s_th t) (k_Nm (s_th t) (o_nd t) (k_Pm (s_th t) (o_pm t) (o_on t) (s_r1 t) (s_r2 t) (s_r3 t)) (o_b t)) (o_b t) (o_on t) (o_hd t) (k_lp (fun k => (s_th t) k && (o_pv t) k) (o_on t) 60))) th1)) (v := nI 60) rfl dX3_takeOffLoose_21 ?_
      refine k_icmp_ge (tgt := 63) hx hb (a := i) (b := 60) (by omega) (by decide) dX3_takeOffLoose_22 (by decide) (fun h_22 => ?_) (fun h_22 => ?_)
      · refine lv_iload_n hx hb dX3_takeOffLoose_63 rfl (lv_at hl 1 rfl) ?_
        exact k_ri hQ hx hb hr hlk hS hW ⟨by rw [hcn, show i = 60 by omega], by rw [show th1 = (fun j => s_th t j && (k_Hd (s_th t) (k_Nm (s_th t) (o_nd t) (k_Pm (s_th t) (o_pm t) (o_on t) (s_r1 t) (s_r2 t) (s_r3 t)) (o_b t)) (o_b t) (o_on t) (o_hd t) (k_lp (fun k => (s_th t) k && (o_pv t) k) (o_on t) 60)) j) from k_th_e hT hwf (show o_n t ≤ i by omega)]⟩ (Nat.le_of_ble_eq_true rfl) (Nat.le_of_ble_eq_true rfl) dX3_takeOffLoose_64
      · refine lv_aload_n hx hb dX3_takeOffLoose_25 rfl (lv_at hl 0 rfl) ?_
        refine k_get (own := RX3) (C := RX3) (T := TX3) (N := 5) hx hb hts hinX3 hown hK hW (kc_5 g ad (set_s_th (set_o_hd (set_o_nd (set_o_pm t (k_Pm (s_th t) (o_pm t) (o_on t) (s_r1 t) (s_r2 t) (s_r3 t))) (k_Nm (s_th t) (o_nd t) (k_Pm (s_th t) (o_pm t) (o_on t) (s_r1 t) (s_r2 t) (s_r3 t)) (o_b t))) (k_Hd (s_th t) (k_Nm (s_th t) (o_nd t) (k_Pm (s_th t) (o_pm t) (o_on t) (s_r1 t) (s_r2 t) (s_r3 t)) (o_b t)) (o_b t) (o_on t) (o_hd t) (k_lp (fun k => (s_th t) k && (o_pv t) k) (o_on t) 60))) th1)) rfl 0 (by decide) (hts (.fieldLink RX3 11 "DrillVault$Shelf" "rows" "[LDrillVault$Copy;") (by decide +kernel)) rfl (v := .ref (ad 6 0)) rfl dX3_takeOffLoose_26 ?_
        refine lv_iload_n hx hb dX3_takeOffLoose_29 rfl (lv_at hl 2 rfl) ?_
        refine k_aald hx hb hK hW (kc_6 g ad (set_s_th (set_o_hd (set_o_nd (set_o_pm t (k_Pm (s_th t) (o_pm t) (o_on t) (s_r1 t) (s_r2 t) (s_r3 t))) (k_Nm (s_th t) (o_nd t) (k_Pm (s_th t) (o_pm t) (o_on t) (s_r1 t) (s_r2 t) (s_r3 t)) (o_b t))) (k_Hd (s_th t) (k_Nm (s_th t) (o_nd t) (k_Pm (s_th t) (o_pm t) (o_on t) (s_r1 t) (s_r2 t) (s_r3 t)) (o_b t)) (o_b t) (o_on t) (o_hd t) (k_lp (fun k => (s_th t) k && (o_pv t) k) (o_on t) 60))) th1)) i rfl (by omega) (by decide) dX3_takeOffLoose_30 ?_
        rcases Bool.eq_false_or_eq_true (th1 i) with hb_31 | hb_31
        · refine k_tov (y := .ref (ad 25 i)) (congrArg va_rf (if_pos hb_31)) ?_
          refine lv_astore_n (lv' := [(3, .ref (ad 25 i)), (0, .ref (ad 5 0)), (1, .int (nI cn)), (2, .int (nI i))]) hx hb dX3_takeOffLoose_31 rfl hl (by decide) rfl (fun ls hl => ?_)
          refine lv_aload_n hx hb dX3_takeOffLoose_32 rfl (lv_at hl 0 rfl) ?_
          refine lv_ifnull hx hb dX3_takeOffLoose_33 ?_
          refine lv_aload_n hx hb dX3_takeOffLoose_36 rfl (lv_at hl 0 rfl) ?_
          refine k_getN (host := RX4) (index := 66) (own := RX3) (C := RX0) (T := TX0) (N := 11) hx hb hts hinX0 hown hK hW (kc_25 g ad (set_s_th (set_o_hd (set_o_nd (set_o_pm t (k_Pm (s_th t) (o_pm t) (o_on t) (s_r1 t) (s_r2 t) (s_r3 t))) (k_Nm (s_th t) (o_nd t) (k_Pm (s_th t) (o_pm t) (o_on t) (s_r1 t) (s_r2 t) (s_r3 t)) (o_b t))) (k_Hd (s_th t) (k_Nm (s_th t) (o_nd t) (k_Pm (s_th t) (o_pm t) (o_on t) (s_r1 t) (s_r2 t) (s_r3 t)) (o_b t)) (o_b t) (o_on t) (o_hd t) (k_lp (fun k => (s_th t) k && (o_pv t) k) (o_on t) 60))) th1) (hwf _ (k_thi hT hb_31))) rfl 10 (by decide) (by decide +kernel) rfl (v := .int (kb ((k_Hd (s_th t) (k_Nm (s_th t) (o_nd t) (k_Pm (s_th t) (o_pm t) (o_on t) (s_r1 t) (s_r2 t) (s_r3 t)) (o_b t)) (o_b t) (o_on t) (o_hd t) (k_lp (fun k => (s_th t) k && (o_pv t) k) (o_on t) 60)) i))) rfl dX3_takeOffLoose_37 ?_
          refine k_ifz_ne (tgt := 57) hx hb dX3_takeOffLoose_40 (by decide) (fun h_40 => ?_) (fun h_40 => ?_)
          · refine lv_iinc (v := nI (i + 1)) (lv' := [(2, .int (nI (i + 1))), (3, .ref (ad 25 i)), (0, .ref (ad 5 0)), (1, .int (nI cn))]) hx hb dX3_takeOffLoose_57 hl (k := 3) rfl (nI_add _ _) (by decide) rfl (fun ls hl => ?_)
            refine lv_goto (tgt := 16) hx hb dX3_takeOffLoose_60 (by decide) ?_
            exact ih (i + 1) th1 cn (by omega) (by omega) (k_th_on hT (Or.inr h_40)) (by rw [k_sm_n (show (s_th t i && !_) = false by rw [k_thi hT hb_31, h_40]; rfl), hcn]) _ _ hW hS _ (lv_sub hl [2, 3, 0] rfl)
          · refine lv_iload_n hx hb dX3_takeOffLoose_43 rfl (lv_at hl 2 rfl) ?_
            refine lv_aload_n hx hb dX3_takeOffLoose_44 rfl (lv_at hl 0 rfl) ?_
            refine k_ci (va_runV (As := []) (rest := [.int (nI cn)]) ⟨hx, hb, hml, hown, hts⟩ (c_X0_spaceTaken l hlt g ad (set_s_th (set_o_hd (set_o_nd (set_o_pm t (k_Pm (s_th t) (o_pm t) (o_on t) (s_r1 t) (s_r2 t) (s_r3 t))) (k_Nm (s_th t) (o_nd t) (k_Pm (s_th t) (o_pm t) (o_on t) (s_r1 t) (s_r2 t) (s_r3 t)) (o_b t))) (k_Hd (s_th t) (k_Nm (s_th t) (o_nd t) (k_Pm (s_th t) (o_pm t) (o_on t) (s_r1 t) (s_r2 t) (s_r3 t)) (o_b t)) (o_b t) (o_on t) (o_hd t) (k_lp (fun k => (s_th t) k && (o_pv t) k) (o_on t) 60))) th1) i (hwf _ (k_thi hT hb_31))) (cwV 0 hts gX3_takeOffLoose_X0_spaceTaken rfl rfl rfl (by decide +kernel) ⟨(Nat.le_of_ble_eq_true rfl), (Nat.le_of_ble_eq_true rfl)⟩) ⟨k_blind, k_recv hK hW (kc_25 g ad (set_s_th (set_o_hd (set_o_nd (set_o_pm t (k_Pm (s_th t) (o_pm t) (o_on t) (s_r1 t) (s_r2 t) (s_r3 t))) (k_Nm (s_th t) (o_nd t) (k_Pm (s_th t) (o_pm t) (o_on t) (s_r1 t) (s_r2 t) (s_r3 t)) (o_b t))) (k_Hd (s_th t) (k_Nm (s_th t) (o_nd t) (k_Pm (s_th t) (o_pm t) (o_on t) (s_r1 t) (s_r2 t) (s_r3 t)) (o_b t)) (o_b t) (o_on t) (o_hd t) (k_lp (fun k => (s_th t) k && (o_pv t) k) (o_on t) 60))) th1) (hwf _ (k_thi hT hb_31))) rfl, fun U hU hw => ⟨rfl, k_I.of hK hZ hN hS hW hU hw⟩⟩ rfl rfl hl.1 rfl (lv_room (Nat.le_of_ble_eq_true rfl)) dX3_takeOffLoose_45 ⟨(Nat.le_of_ble_eq_true rfl), (Nat.le_of_ble_eq_true rfl)⟩) hS (fun r u H locs hpo hW hS => ?_)
            obtain ⟨hr9, hu9⟩ := hpo; replace hu9 := hu9.symm; subst hu9; replace hr9 := hr9.symm; subst hr9
            refine k_iadd hx hb dX3_takeOffLoose_48 ?_
            refine lv_istore_n (lv' := [(1, .int (nI (cn + (o_kc t i + 1)))), (3, .ref (ad 25 i)), (0, .ref (ad 5 0)), (2, .int (nI i))]) hx hb dX3_takeOffLoose_49 rfl hl (by decide) rfl (fun ls hl => ?_)
            refine lv_aload_n hx hb dX3_takeOffLoose_50 rfl (lv_at hl 2 rfl) ?_
            refine k_get (own := RX3) (C := RX3) (T := TX3) (N := 5) hx hb hts hinX3 hown hK hW (kc_5 g ad (set_s_th (set_o_hd (set_o_nd (set_o_pm t (k_Pm (s_th t) (o_pm t) (o_on t) (s_r1 t) (s_r2 t) (s_r3 t))) (k_Nm (s_th t) (o_nd t) (k_Pm (s_th t) (o_pm t) (o_on t) (s_r1 t) (s_r2 t) (s_r3 t)) (o_b t))) (k_Hd (s_th t) (k_Nm (s_th t) (o_nd t) (k_Pm (s_th t) (o_pm t) (o_on t) (s_r1 t) (s_r2 t) (s_r3 t)) (o_b t)) (o_b t) (o_on t) (o_hd t) (k_lp (fun k => (s_th t) k && (o_pv t) k) (o_on t) 60))) th1)) rfl 0 (by decide) (hts (.fieldLink RX3 11 "DrillVault$Shelf" "rows" "[LDrillVault$Copy;") (by decide +kernel)) rfl (v := .ref (ad 6 0)) rfl dX3_takeOffLoose_51 ?_
            refine lv_iload_n hx hb dX3_takeOffLoose_54 rfl (lv_at hl 3 rfl) ?_
            refine lv_null hx hb dX3_takeOffLoose_55 ?_
            refine k_aastN hx hb hK hW hS (kc_6 g ad (set_s_th (set_o_hd (set_o_nd (set_o_pm t (k_Pm (s_th t) (o_pm t) (o_on t) (s_r1 t) (s_r2 t) (s_r3 t))) (k_Nm (s_th t) (o_nd t) (k_Pm (s_th t) (o_pm t) (o_on t) (s_r1 t) (s_r2 t) (s_r3 t)) (o_b t))) (k_Hd (s_th t) (k_Nm (s_th t) (o_nd t) (k_Pm (s_th t) (o_pm t) (o_on t) (s_r1 t) (s_r2 t) (s_r3 t)) (o_b t)) (o_b t) (o_on t) (o_hd t) (k_lp (fun k => (s_th t) k && (o_pv t) k) (o_on t) 60))) th1)) i rfl (by omega) (by decide) dX3_takeOffLoose_56 (fun H locs hW hS => ?_)
            have hW : k_H g ad (set_s_th (set_o_hd (set_o_nd (set_o_pm t (k_Pm (s_th t) (o_pm t) (o_on t) (s_r1 t) (s_r2 t) (s_r3 t))) (k_Nm (s_th t) (o_nd t) (k_Pm (s_th t) (o_pm t) (o_on t) (s_r1 t) (s_r2 t) (s_r3 t)) (o_b t))) (k_Hd (s_th t) (k_Nm (s_th t) (o_nd t) (k_Pm (s_th t) (o_pm t) (o_on t) (s_r1 t) (s_r2 t) (s_r3 t)) (o_b t)) (o_b t) (o_on t) (o_hd t) (k_lp (fun k => (s_th t) k && (o_pv t) k) (o_on t) 60))) (va_up th1 i false)) H := kt_s_th0 (t := set_s_th (set_o_hd (set_o_nd (set_o_pm t (k_Pm (s_th t) (o_pm t) (o_on t) (s_r1 t) (s_r2 t) (s_r3 t))) (k_Nm (s_th t) (o_nd t) (k_Pm (s_th t) (o_pm t) (o_on t) (s_r1 t) (s_r2 t) (s_r3 t)) (o_b t))) (k_Hd (s_th t) (k_Nm (s_th t) (o_nd t) (k_Pm (s_th t) (o_pm t) (o_on t) (s_r1 t) (s_r2 t) (s_r3 t)) (o_b t)) (o_b t) (o_on t) (o_hd t) (k_lp (fun k => (s_th t) k && (o_pv t) k) (o_on t) 60))) th1) i hW
            refine lv_iinc (v := nI (i + 1)) (lv' := [(2, .int (nI (i + 1))), (1, .int (nI (cn + (o_kc t i + 1)))), (3, .ref (ad 25 i)), (0, .ref (ad 5 0))]) hx hb dX3_takeOffLoose_57 hl (k := 3) rfl (nI_add _ _) (by decide) rfl (fun ls hl => ?_)
            refine lv_goto (tgt := 16) hx hb dX3_takeOffLoose_60 (by decide) ?_
            exact ih (i + 1) (va_up th1 i false) (cn + (o_kc t i + 1)) (by omega) (by omega) (k_th_off hT h_40) (by rw [k_sm_y (show (s_th t i && !_) = true by rw [k_thi hT hb_31, h_40]; rfl), hcn]) _ _ hW hS _ (lv_sub hl [3, 1, 0] rfl)
        · refine k_tov (y := .null) (congrArg va_rf (if_neg (fun q => absurd (hb_31.symm.trans q) (by decide)))) ?_
          refine lv_astore_nN (lv' := [(3, .null), (0, .ref (ad 5 0)), (1, .int (nI cn)), (2, .int (nI i))]) hx hb dX3_takeOffLoose_31 rfl hl (by decide) rfl (fun ls hl => ?_)
          refine lv_aload_nN hx hb dX3_takeOffLoose_32 rfl (lv_at hl 0 rfl) ?_
          refine lv_ifnullN (tgt := 57) hx hb dX3_takeOffLoose_33 (by decide) ?_
          refine lv_iinc (v := nI (i + 1)) (lv' := [(2, .int (nI (i + 1))), (3, .null), (0, .ref (ad 5 0)), (1, .int (nI cn))]) hx hb dX3_takeOffLoose_57 hl (k := 3) rfl (nI_add _ _) (by decide) rfl (fun ls hl => ?_)
          refine lv_goto (tgt := 16) hx hb dX3_takeOffLoose_60 (by decide) ?_
          exact ih (i + 1) th1 cn (by omega) (by omega) (k_th_on hT (Or.inl (by rw [← hb_31, hT i, if_neg (Nat.lt_irrefl i)]))) (by rw [k_sm_n (show (s_th t i && !_) = false by rw [show s_th t i = false by rw [← hb_31, hT i, if_neg (Nat.lt_irrefl i)]]; rfl), hcn]) _ _ hW hS _ (lv_sub hl [2, 3, 0] rfl)
  exact hloop_16 61 0 (s_th t) 0 (by omega) (by omega) (fun j => by rw [if_neg (Nat.not_lt_zero j)]) rfl _ _ hW hS _ (lv_sub hl [2, 1, 0] rfl)
end
section
theorem zz_t : True := trivial
end
