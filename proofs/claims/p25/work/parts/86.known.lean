/-! WHAT THE TABLES AND THE STATEMENT GIVE OF THE START -/
theorem lw_arrp {args : Array Value} {s : State} {ty : FieldType} (hno : ∀ C, ty ≠ .object C) (h : (Cond.arrayClass ty).before args s = true) : ∃ cA : ClassId, ArrOfT s cA ty ∧ va_RA s cA ty := by
  obtain ⟨cA, kA, comp, h1, h2, h3⟩ := Cond.arrayClass_spec (show (Cond.arrayClass ty).holds args s none s [] = true from h)
  refine ⟨cA, fun n z => ⟨(fun k h => by cases h), kA, h2, comp, h3⟩, ?_⟩
  cases ty with
  | object C => exact absurd rfl (hno C)
  | _ => exact h1
theorem lw_arrq {args : Array Value} {s : State} {C : String} (h : (Cond.arrayOver (.object C)).before args s = true) : ∃ cA : ClassId, ArrOfT s cA (.object C) ∧ va_RA s cA (.object C) := by
  obtain ⟨comp, cA, kA, h1, h2, h3, h4, h5⟩ := Cond.arrayOver_spec (show (Cond.arrayOver (.object C)).holds args s none s [] = true from h)
  exact ⟨cA, fun n z => ⟨(fun k h => by cases h), kA, h3, comp, h4⟩, kA, comp, h3, h4, h1, h5⟩
theorem lw_nestF : ∀ w ∈ k_nestF, Cond.fieldLinkNest w.1 w.2.1 w.2.2.1 w.2.2.2.1 w.2.2.2.2.1 w.2.2.2.2.2 ∈ lw_tbl := by decide +kernel
theorem lw_nestM : ∀ w ∈ k_nestM, Cond.methodLinkNest w.1 w.2.1 w.2.2.1 w.2.2.2 ∈ lw_tbl := by decide +kernel
theorem lw_strs : ∀ q ∈ k_strs, Cond.stringRef q.1 q.2.1 q.2.2 ∈ lw_tbl := by decide +kernel
theorem lw_cast : ∀ q ∈ k_cast, Cond.castable q.1 q.2 ∈ lw_tbl := by decide +kernel
theorem lw_decs : ∀ q ∈ k_decs, Cond.declares q ∈ lw_tbl := by decide +kernel
theorem lw_over : Cond.arrayOver (.object RX0) ∈ lw_tbl := by decide +kernel
theorem lw_arrs : ∀ ty ∈ [FieldType.int], Cond.arrayClass ty ∈ lw_tbl := by decide +kernel
theorem lw_inst : ∀ q ∈ [(RX0, 11), (RX1, 4), (RX2, 1), (RX3, 5), (RX4, 4)], Cond.instantiable q.1 q.2 ∈ lw_tbl := by decide +kernel
theorem lw_lays : ∀ w ∈ [Cond.laysStatic Bundle.tN "UNASSIGNED_STACK" Bundle.steD, Cond.laysStatic Bundle.tN "SUPPRESSED_SENTINEL" Bundle.listD, Cond.initialized Bundle.tN], w ∈ lw_tbl := by decide +kernel
theorem lw_ncs : ∀ q ∈ k_ncs, Cond.not (.castable q.1 q.2) ∈ flatC (Jvm.Cond.and given_1 narrow_1) := by decide +kernel
theorem lw_exa : ∀ q ∈ k_strs, Cond.exactly (.string q.1 q.2.1) "java/lang/String" ∈ flatC (Jvm.Cond.and given_1 narrow_1) := by decide +kernel
theorem lw_sta : ∀ w ∈ [Cond.isRef (.static Bundle.tN "UNASSIGNED_STACK" Bundle.steD), Cond.isRef (.static Bundle.tN "SUPPRESSED_SENTINEL" Bundle.listD)], w ∈ flatC (Jvm.Cond.and given_1 narrow_1) := by decide +kernel
set_option maxHeartbeats 4000000 in
theorem lw_known {args : Array Value} {s : State} (hts : ∀ w ∈ lw_tbl, w.before args s = true) (hgv : (Jvm.Cond.and given_1 narrow_1).before args s = true) : ∃ g : k_g, g.2.2 = s.heap.size ∧ k_K g s ∧ k_Z g s s.heap := by
  have hs := flat_of_before _ hgv
  obtain ⟨c0, i0, n0⟩ := u_known (C := RX0) (T := TX0) (N := 11) (n := 11) hts inX0 (hts _ (lw_inst (RX0, 11) (by decide +kernel)))
  obtain ⟨c1, i1, n1⟩ := u_known (C := RX1) (T := TX1) (N := 4) (n := 4) hts inX1 (hts _ (lw_inst (RX1, 4) (by decide +kernel)))
  obtain ⟨c2, i2, n2⟩ := u_known (C := RX2) (T := TX2) (N := 1) (n := 1) hts inX2 (hts _ (lw_inst (RX2, 1) (by decide +kernel)))
  obtain ⟨c3, i3, n3⟩ := u_known (C := RX3) (T := TX3) (N := 5) (n := 5) hts inX3 (hts _ (lw_inst (RX3, 5) (by decide +kernel)))
  obtain ⟨c4, i4, n4⟩ := u_known (C := RX4) (T := TX4) (N := 4) (n := 4) hts inX4 (hts _ (lw_inst (RX4, 4) (by decide +kernel)))
  obtain ⟨a0, f0⟩ := lw_arrp (fun C q => by cases q) (hts _ (lw_arrs .int (by decide +kernel)))
  obtain ⟨a3, f3⟩ := lw_arrq (hts _ lw_over)
  have hA : ∀ a : Nat, a < s.heap.size → ¬ (fun q : Nat => s.heap.size ≤ q) a := fun a h => Nat.not_le.mpr h
  refine ⟨((fun k => match k with | 0 => c0 | 1 => c1 | 2 => c2 | 3 => c3 | _ => c4, fun k => match k with | 0 => i0 | 1 => i1 | 2 => i2 | 3 => i3 | _ => i4), (fun k => match k with | 0 => a0 | 1 => a0 | 2 => a0 | _ => a3), s.heap.size), rfl, ⟨⟨?_, ?_⟩, ?_, ?_, ?_, ?_, ?_, ?_, ?_⟩, ?_⟩
  · intro k q hq
    match k, hq with
    | 0, hq => cases hq; exact n0
    | 1, hq => cases hq; exact n1
    | 2, hq => cases hq; exact n2
    | 3, hq => cases hq; exact n3
    | 4, hq => cases hq; exact n4
    | k + 5, hq => simp [vwCl] at hq
  · intro k q hq
    match k, hq with
    | 0, hq => cases hq; exact f0
    | 1, hq => cases hq; exact f0
    | 2, hq => cases hq; exact f0
    | 3, hq => cases hq; exact f3
    | k + 4, hq => simp [k_tys] at hq
  · exact fun w hw => va_Nw.of rfl (hts _ (lw_nestF w hw))
  · exact fun w hw => va_Nw.of rfl (hts _ (lw_nestM w hw))
  · intro q hq
    obtain ⟨a, -, -, -, ha, -⟩ := Cond.exactly_spec (show (Cond.exactly (.string q.1 q.2.1) "java/lang/String").holds args s none s [] = true from hs _ (lw_exa q hq))
    exact ⟨a, vk_R.of (hts _ (lw_strs q hq)) ha⟩
  · exact fun q hq => k_Ca.of (hts _ (lw_cast q hq))
  · exact fun q hq => va_Nc.of (hs _ (lw_ncs q hq))
  · exact va_AO.of (hts _ lw_over)
  · exact fun q hq => va_any rfl (hts _ (lw_decs q hq))
  · exact ⟨vx_Zqof (hts _ (lw_lays _ (List.mem_cons_self))) (hts _ (lw_lays _ (List.mem_cons_of_mem _ (List.mem_cons_of_mem _ List.mem_cons_self)))) (hs _ (lw_sta _ List.mem_cons_self)) hA, vx_Zqof (hts _ (lw_lays _ (List.mem_cons_of_mem _ List.mem_cons_self))) (hts _ (lw_lays _ (List.mem_cons_of_mem _ (List.mem_cons_of_mem _ List.mem_cons_self)))) (hs _ (lw_sta _ (List.mem_cons_of_mem _ List.mem_cons_self))) hA⟩
