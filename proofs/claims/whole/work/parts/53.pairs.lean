theorem k_J.pass2 {t : k_T} (J : k_J t) {w : Nat} {o : Nat → Int64} (h : m_d t + w ≤ 360) : k_J (set_m_d (set_m_l (set_l_o (set_x_d t (x_d t + w)) o) 0) (m_d t + w)) := ⟨J.fc, J.fn, J.fn3, J.fne, J.flf, J.fcl, J.ch, J.chd, (by show x_d t + w = m_d t + w; rw [J.xd]), (h), J.th, J.md, J.onn, J.m60, J.wf, J.r1, J.r2, J.r3, J.r1b, J.r2b, J.r3b, J.rt, J.rtb, J.on, J.onb, J.b, J.blt, J.bth, J.ca, J.cab, J.kk, J.kc, J.dm, J.pv, J.ful, J.fk, J.sz0, J.dm0, J.pv0⟩
theorem k_J.markb {t : k_T} (J : k_J t) {P2 N2 : Nat → Bool} {n : Nat} : k_J (set_m_l (set_m_nd (set_m_pm t P2) N2) n) := ⟨J.fc, J.fn, J.fn3, J.fne, J.flf, J.fcl, J.ch, J.chd, J.xd, J.d360, J.th, J.md, J.onn, J.m60, J.wf, J.r1, J.r2, J.r3, J.r1b, J.r2b, J.r3b, J.rt, J.rtb, J.on, J.onb, J.b, J.blt, J.bth, J.ca, J.cab, J.kk, J.kc, J.dm, J.pv, J.ful, J.fk, J.sz0, J.dm0, J.pv0⟩
theorem k_J.anyU {t : k_T} (J : k_J t) {j : Nat} {k : Nat} (h : k < m_md t) : (k_cl (o_b t) k).any (va_up (o_dm t) j true) = (k_cl (m_b t) k).any (va_up (m_dm t) j true) := by
  rw [J.cl h]
  have : ∀ l : List Nat, (∀ j ∈ l, j < m_md t) → l.any (va_up (o_dm t) j true) = l.any (va_up (m_dm t) j true) := by
    intro l
    induction l with
    | nil => intro _; rfl
    | cons a l ih =>
      intro h
      have e : va_up (o_dm t) j true a = va_up (m_dm t) j true a := by simp only [va_up, J.dm a (h a List.mem_cons_self)]
      rw [List.any_cons, List.any_cons, ih (fun j hj => h j (List.mem_cons_of_mem _ hj)), e]
  exact this _ (fun j hj => by have := k_cl_le k j hj; omega)
theorem lw_ge {z : Int32} {M : Nat} (h : nI M < z) (hM : M + 1 < 2 ^ 31) : nI (M + 1) ≤ z := by
  rw [Int32.lt_iff_toInt_lt, nI_toInt (by omega)] at h
  rw [Int32.le_iff_toInt_le, nI_toInt hM]
  omega
theorem lw_neg {z : Int32} {n : Nat} (h : z < 0) (hn : n < 2 ^ 31) : z < nI n ∨ nI 364 < z := by
  refine Or.inl ?_
  rw [Int32.lt_iff_toInt_lt] at h ⊢
  rw [nI_toInt hn]
  have h0 : (0 : Int32).toInt = 0 := rfl
  omega
/-- which copy an operand names -/
theorem lw_copy (t : k_T) (z : Int32) : (z < 0 ∨ nI 60 ≤ z ∨ ∃ j, j < 60 ∧ z = nI j ∧ m_th t j = false) ∨ ∃ j, j < 60 ∧ z = nI j ∧ m_th t j = true := by
  rcases k_split z (M := 59) (by decide) with h | h | ⟨j, hj, h⟩
  · exact Or.inl (Or.inl h)
  · exact Or.inl (Or.inr (Or.inl (lw_ge h (by decide))))
  · cases hb : m_th t j with
    | false => exact Or.inl (Or.inr (Or.inr ⟨j, by omega, h, hb⟩))
    | true => exact Or.inr ⟨j, by omega, h, hb⟩
theorem k_J.noc {t : k_T} (J : k_J t) {z : Int32} (h : z < 0 ∨ nI 60 ≤ z ∨ ∃ j, j < 60 ∧ z = nI j ∧ m_th t j = false) : z < 0 ∨ nI 60 ≤ z ∨ ∃ j, j < 60 ∧ z = nI j ∧ s_th t j = false := by rw [J.th]; exact h
theorem lw_file (z : Int32) : (z < 0 ∨ nI 10 ≤ z) ∨ ∃ j, j < 10 ∧ z = nI j := by
  rcases k_split z (M := 9) (by decide) with h | h | ⟨j, hj, h⟩
  · exact Or.inl (Or.inl h)
  · exact Or.inl (Or.inr (lw_ge h (by decide)))
  · exact Or.inr ⟨j, by omega, h⟩
theorem lw_upto (z : Int32) {M : Nat} (hM : M < 2 ^ 31) : (z < 0 ∨ nI M < z) ∨ ∃ j, j ≤ M ∧ z = nI j := by
  rcases k_split z hM with h | h | h
  · exact Or.inl (Or.inl h)
  · exact Or.inl (Or.inr h)
  · exact Or.inr h
theorem lw_day (z : Int32) {d : Nat} (hd : d ≤ 360) : (z < nI d ∨ nI 364 < z) ∨ ∃ j, d ≤ j ∧ j ≤ 364 ∧ z = nI j := by
  rcases k_split z (M := 364) (by decide) with h | h | ⟨j, hj, h⟩
  · exact Or.inl (lw_neg h (by omega))
  · exact Or.inl (Or.inr h)
  · rcases Nat.lt_or_ge j d with q | q
    · exact Or.inl (Or.inl (by rw [h]; exact nI_lt q (by omega)))
    · exact Or.inr ⟨j, q, hj, h⟩
theorem k_J.s1 {t : k_T} (J : k_J t) : s_r1 t ≤ 30 := by rw [J.r1]; exact J.r1b
theorem k_J.s2 {t : k_T} (J : k_J t) : s_r2 t ≤ 30 := by rw [J.r2]; exact J.r2b
theorem k_J.s3 {t : k_T} (J : k_J t) : s_r3 t ≤ 30 := by rw [J.r3]; exact J.r3b
theorem k_J.sth {t : k_T} (J : k_J t) {j : Nat} (h : m_th t j = true) : s_th t j = true := by rw [J.th]; exact h
theorem k_J.xd3 {t : k_T} (J : k_J t) : x_d t ≤ 360 := by rw [J.xd]; exact J.d360
theorem k_J.rpb {t : k_T} (J : k_J t) : ∀ i, i < 365 → r_p t i < 5 := by rw [J.rt]; exact J.rtb
theorem k_J.wfx {t : k_T} (J : k_J t) : ∀ k, m_md t ≤ k → m_th t k = false := by
  intro k hk
  cases h : m_th t k with
  | false => rfl
  | true => have := J.wf k h; omega
theorem k_J.cpy {t : k_T} (J : k_J t) : k_cb (s_th t) 60 = k_cb (m_th t) (m_md t) := by rw [J.th]; exact k_cb_ext 60 J.m60 (fun _ _ => rfl) J.wfx
theorem k_J.spc {t : k_T} (J : k_J t) : k_sm (s_th t) (fun k => o_kc t k + 1) 60 = k_sm (m_th t) (fun k => m_sz t k + 1) (m_md t) := by rw [J.th]; exact k_sm_ext 60 J.m60 (fun _ _ => rfl) (fun k hk => by simp only [J.kc k hk]) J.wfx
theorem k_J.dmg {t : k_T} (J : k_J t) {j : Nat} : k_cb (fun k => ((s_th t) k && (k_Pm (s_th t) (o_pm t) (o_on t) (s_r1 t) (s_r2 t) (s_r3 t)) k) && (k_cl (o_b t) k).any (va_up (o_dm t) j true)) 60 = k_cb (fun k => (k_PmM (m_md t) (m_th t) (m_pm t) (m_on t) (m_r1 t) (m_r2 t) (m_r3 t)) k && (k_cl (m_b t) k).any (va_up (m_dm t) j true)) (m_md t) := by
  rw [J.r1, J.r2, J.r3]
  exact k_cb_ext 60 J.m60 (fun k hk => by rw [J.pm k hk, J.anyU hk]) (fun k hk => by simp only [J.thf hk, Bool.false_and])
theorem k_J.pmj {t : k_T} (J : k_J t) {j : Nat} (h : m_th t j = true) : k_Pm (s_th t) (o_pm t) (o_on t) (s_r1 t) (s_r2 t) (s_r3 t) j = k_PmM (m_md t) (m_th t) (m_pm t) (m_on t) (m_r1 t) (m_r2 t) (m_r3 t) j := by
  rw [J.r1, J.r2, J.r3, ← J.pm j (J.wf j h), J.sth h, Bool.true_and]
theorem k_J.ndj {t : k_T} (J : k_J t) {j : Nat} (h : m_th t j = true) : k_Nm (s_th t) (o_nd t) (k_Pm (s_th t) (o_pm t) (o_on t) (s_r1 t) (s_r2 t) (s_r3 t)) (o_b t) j = k_NmM (m_md t) (m_nd t) (k_PmM (m_md t) (m_th t) (m_pm t) (m_on t) (m_r1 t) (m_r2 t) (m_r3 t)) (m_b t) j := by
  rw [J.r1, J.r2, J.r3]; exact J.nd j h
theorem k_J.drl {t : k_T} (J : k_J t) {j : Nat} (hj : j < m_md t) {x : Bool} : ∀ k, k < m_md t → (fun j9 => if (k_cl (o_b t) j).contains j9 = true then x else (o_pv t) j9) k = (fun j9 => if (k_cl (m_b t) j).contains j9 = true then x else (m_pv t) j9) k := by
  intro k hk
  show (if (k_cl (o_b t) j).contains k = true then x else (o_pv t) k) = (if (k_cl (m_b t) j).contains k = true then x else (m_pv t) k)
  rw [J.cl hj, J.pv k hk]
theorem k_J.drl2 {t : k_T} (J : k_J t) {j : Nat} (hj : j < m_md t) {x : Bool} : ∀ k, m_md t ≤ k → (fun j9 => if (k_cl (m_b t) j).contains j9 = true then x else (m_pv t) j9) k = false := by
  intro k hk
  show (if (k_cl (m_b t) j).contains k = true then x else (m_pv t) k) = false
  rw [if_neg (fun q => by have := k_cl_le j k (List.contains_iff_mem.mp q); omega)]
  exact J.pv0 k hk
theorem k_J.laz {t : k_T} (J : k_J t) : k_la (s_th t) 60 = k_la (m_th t) (m_md t) := by rw [J.th]; exact k_la_ext 60 J.m60 J.wf
theorem k_J.inb {t : k_T} (J : k_J t) {j : Nat} (h : j < m_md t) : o_ca t j ≤ f_n t := by rw [J.ca j h, J.fn]; exact J.cab j h
theorem k_J.fn4 {t : k_T} (J : k_J t) : f_n t ≤ 300 := by rw [J.fn]; exact J.fn3
theorem k_J.flf2 {t : k_T} (J : k_J t) : ∀ i, i < f_n t → f_lf t i < 10 := by rw [J.fn]; exact J.flf
theorem k_J.fcn {t : k_T} (J : k_J t) : ∀ j, j < 10 → f_c t j ≠ -1 := by rw [J.fc]; exact J.fne
theorem pr_change_of {l : Launch} {g : k_g} {ad : k_AD} {t : k_T} {z1 z2 : Int32} (k : Nat) {t1 w : k_T} {rv : Int32} (h1 : vx_Met l yL_change wsL_change rm_L_change (va_Pc [.ref (ad 0 0), .int z1, .int z2, .ref (ad 24 0)] (k_I g (k_ct g ad t) ad)) (va_Qi (S := k_T × k_AD) (fun r u => r = nI k ∧ u.1 = t1 ∧ u.2 = ad) (fun u U => k_H g u.2 u.1 U.heap) (k_A g)) (fun _ _ _ => False) 3 18 (k_A g)) (h2 : Met l yX5_change wsX5_change rm_X5_change (va_Pc [.ref (ad 9 0), .int z1, .int z2] (k_I g (k_ct g ad t1) ad)) (va_Qi (fun r u => r = rv ∧ u = w) (fun u U => k_H g ad u U.heap) (k_A g)) 0 0 (k_A g)) (hk : k < 2 ^ 31) (hm : m_l w = k) (ho : (k = 0 → l_o w 0 = rv.toInt64)) (hJ : k_J w) : pr_change l g ad t z1 z2 := by
  refine ⟨k, _, h1, hk, fun r t2 ad1 hp => ?_⟩
  obtain ⟨e1, e2, e3⟩ := hp
  have e2 : t2 = t1 := e2
  have e3 : ad1 = ad := e3
  subst e2
  subst e3
  refine ⟨e1, ⟨rfl, rfl, rfl⟩, _, h2, fun rv2 w2 hp2 => ?_⟩
  obtain ⟨e4, e5⟩ := hp2
  subst e4
  subst e5
  exact ⟨hm, ho, hJ⟩
theorem pr_pass_of {l : Launch} {g : k_g} {ad : k_AD} {t : k_T} {z1 : Int32} (k : Nat) {t1 w : k_T} {rv : Int32} (h1 : vx_Met l yL_pass wsL_pass rm_L_pass (va_Pc [.ref (ad 0 0), .int z1, .ref (ad 24 0)] (k_I g (k_ct g ad t) ad)) (va_Qi (S := k_T × k_AD) (fun r u => r = nI k ∧ u.1 = t1 ∧ u.2 = ad) (fun u U => k_H g u.2 u.1 U.heap) (k_A g)) (fun _ _ _ => False) 2 12 (k_A g)) (h2 : Met l yX5_pass wsX5_pass rm_X5_pass (va_Pc [.ref (ad 9 0), .int z1] (k_I g (k_ct g ad t1) ad)) (va_Qi (fun r u => r = rv ∧ u = w) (fun u U => k_H g ad u U.heap) (k_A g)) 0 0 (k_A g)) (hk : k < 2 ^ 31) (hm : m_l w = k) (ho : (k = 0 → l_o w 0 = rv.toInt64)) (hJ : k_J w) : pr_pass l g ad t z1 := by
  refine ⟨k, _, h1, hk, fun r t2 ad1 hp => ?_⟩
  obtain ⟨e1, e2, e3⟩ := hp
  have e2 : t2 = t1 := e2
  have e3 : ad1 = ad := e3
  subst e2
  subst e3
  refine ⟨e1, ⟨rfl, rfl, rfl⟩, _, h2, fun rv2 w2 hp2 => ?_⟩
  obtain ⟨e4, e5⟩ := hp2
  subst e4
  subst e5
  exact ⟨hm, ho, hJ⟩
theorem pr_full_of {l : Launch} {g : k_g} {ad : k_AD} {t : k_T} (k : Nat) {t1 w : k_T} {rv : Int32} (h1 : vx_Met l yL_full wsL_full rm_L_full (va_Pc [.ref (ad 0 0), .ref (ad 24 0)] (k_I g (k_ct g ad t) ad)) (va_Qi (S := k_T × k_AD) (fun r u => r = nI k ∧ u.1 = t1 ∧ u.2 = ad) (fun u U => k_H g u.2 u.1 U.heap) (k_A g)) (fun _ _ _ => False) 3 27 (k_A g)) (h2 : Met l yX5_full wsX5_full rm_X5_full (va_Pc [.ref (ad 9 0)] (k_I g (k_ct g ad t1) ad)) (va_Qi (fun r u => r = rv ∧ u = w) (fun u U => k_H g ad u U.heap) (k_A g)) 0 0 (k_A g)) (hk : k < 2 ^ 31) (hm : m_l w = k) (ho : (k = 0 → l_o w 0 = rv.toInt64)) (hJ : k_J w) : pr_full l g ad t := by
  refine ⟨k, _, h1, hk, fun r t2 ad1 hp => ?_⟩
  obtain ⟨e1, e2, e3⟩ := hp
  have e2 : t2 = t1 := e2
  have e3 : ad1 = ad := e3
  subst e2
  subst e3
  refine ⟨e1, ⟨rfl, rfl, rfl⟩, _, h2, fun rv2 w2 hp2 => ?_⟩
  obtain ⟨e4, e5⟩ := hp2
  subst e4
  subst e5
  exact ⟨hm, ho, hJ⟩
theorem pr_full_of2 {l : Launch} {g : k_g} {ad : k_AD} {t : k_T} (k : Nat) {t1 w : k_T} {rv : Int32} (h1 : vx_Met l yL_full wsL_full rm_L_full (va_Pc [.ref (ad 0 0), .ref (ad 24 0)] (k_I g (k_ct g ad t) ad)) (va_Qi (S := k_T × k_AD) (fun r u => r = nI k ∧ u.1 = t1 ∧ ∀ a b, ¬ (a = 25 ∧ b = s_md t) → ¬ (a = 26 ∧ b = s_md t) → u.2 a b = ad a b) (fun u U => k_H g u.2 u.1 U.heap) (k_A g)) (fun _ _ _ => False) 3 27 (k_A g)) (h2 : ∀ ad1 : k_AD, Met l yX5_full wsX5_full rm_X5_full (va_Pc [.ref (ad1 9 0)] (k_I g (k_ct g ad1 t1) ad1)) (va_Qi (fun r u => r = rv ∧ u = w) (fun u U => k_H g ad1 u U.heap) (k_A g)) 0 0 (k_A g)) (hk : k < 2 ^ 31) (hm : m_l w = k) (ho : (k = 0 → l_o w 0 = rv.toInt64)) (hJ : k_J w) : pr_full l g ad t := by
  refine ⟨k, _, h1, hk, fun r t2 ad1 hp => ?_⟩
  obtain ⟨e1, e2, e3⟩ := hp
  have e2 : t2 = t1 := e2
  have e3 : ∀ a b, ¬ (a = 25 ∧ b = s_md t) → ¬ (a = 26 ∧ b = s_md t) → ad1 a b = ad a b := e3
  subst e2
  refine ⟨e1, ⟨e3 0 0 (fun q => absurd q.1 (by decide)) (fun q => absurd q.1 (by decide)), e3 9 0 (fun q => absurd q.1 (by decide)) (fun q => absurd q.1 (by decide)), e3 24 0 (fun q => absurd q.1 (by decide)) (fun q => absurd q.1 (by decide))⟩, _, h2 ad1, fun rv2 w2 hp2 => ?_⟩
  obtain ⟨e4, e5⟩ := hp2
  subst e4
  subst e5
  exact ⟨hm, ho, hJ⟩
theorem pr_increment_of {l : Launch} {g : k_g} {ad : k_AD} {t : k_T} (k : Nat) {t1 w : k_T} {rv : Int32} (h1 : vx_Met l yL_increment wsL_increment rm_L_increment (va_Pc [.ref (ad 0 0), .ref (ad 24 0)] (k_I g (k_ct g ad t) ad)) (va_Qi (S := k_T × k_AD) (fun r u => r = nI k ∧ u.1 = t1 ∧ u.2 = ad) (fun u U => k_H g u.2 u.1 U.heap) (k_A g)) (fun _ _ _ => False) 3 27 (k_A g)) (h2 : Met l yX5_increment wsX5_increment rm_X5_increment (va_Pc [.ref (ad 9 0)] (k_I g (k_ct g ad t1) ad)) (va_Qi (fun r u => r = rv ∧ u = w) (fun u U => k_H g ad u U.heap) (k_A g)) 0 0 (k_A g)) (hk : k < 2 ^ 31) (hm : m_l w = k) (ho : (k = 0 → l_o w 0 = rv.toInt64)) (hJ : k_J w) : pr_increment l g ad t := by
  refine ⟨k, _, h1, hk, fun r t2 ad1 hp => ?_⟩
  obtain ⟨e1, e2, e3⟩ := hp
  have e2 : t2 = t1 := e2
  have e3 : ad1 = ad := e3
  subst e2
  subst e3
  refine ⟨e1, ⟨rfl, rfl, rfl⟩, _, h2, fun rv2 w2 hp2 => ?_⟩
  obtain ⟨e4, e5⟩ := hp2
  subst e4
  subst e5
  exact ⟨hm, ho, hJ⟩
theorem pr_increment_of2 {l : Launch} {g : k_g} {ad : k_AD} {t : k_T} (k : Nat) {t1 w : k_T} {rv : Int32} (h1 : vx_Met l yL_increment wsL_increment rm_L_increment (va_Pc [.ref (ad 0 0), .ref (ad 24 0)] (k_I g (k_ct g ad t) ad)) (va_Qi (S := k_T × k_AD) (fun r u => r = nI k ∧ u.1 = t1 ∧ ∀ a b, ¬ (a = 25 ∧ b = s_md t) → ¬ (a = 26 ∧ b = s_md t) → u.2 a b = ad a b) (fun u U => k_H g u.2 u.1 U.heap) (k_A g)) (fun _ _ _ => False) 3 27 (k_A g)) (h2 : ∀ ad1 : k_AD, Met l yX5_increment wsX5_increment rm_X5_increment (va_Pc [.ref (ad1 9 0)] (k_I g (k_ct g ad1 t1) ad1)) (va_Qi (fun r u => r = rv ∧ u = w) (fun u U => k_H g ad1 u U.heap) (k_A g)) 0 0 (k_A g)) (hk : k < 2 ^ 31) (hm : m_l w = k) (ho : (k = 0 → l_o w 0 = rv.toInt64)) (hJ : k_J w) : pr_increment l g ad t := by
  refine ⟨k, _, h1, hk, fun r t2 ad1 hp => ?_⟩
  obtain ⟨e1, e2, e3⟩ := hp
  have e2 : t2 = t1 := e2
  have e3 : ∀ a b, ¬ (a = 25 ∧ b = s_md t) → ¬ (a = 26 ∧ b = s_md t) → ad1 a b = ad a b := e3
  subst e2
  refine ⟨e1, ⟨e3 0 0 (fun q => absurd q.1 (by decide)) (fun q => absurd q.1 (by decide)), e3 9 0 (fun q => absurd q.1 (by decide)) (fun q => absurd q.1 (by decide)), e3 24 0 (fun q => absurd q.1 (by decide)) (fun q => absurd q.1 (by decide))⟩, _, h2 ad1, fun rv2 w2 hp2 => ?_⟩
  obtain ⟨e4, e5⟩ := hp2
  subst e4
  subst e5
  exact ⟨hm, ho, hJ⟩
theorem pr_damage_of {l : Launch} {g : k_g} {ad : k_AD} {t : k_T} {z1 : Int32} (k : Nat) {t1 w : k_T} {rv : Int32} (h1 : vx_Met l yL_damage wsL_damage rm_L_damage (va_Pc [.ref (ad 0 0), .int z1, .ref (ad 24 0)] (k_I g (k_ct g ad t) ad)) (va_Qi (S := k_T × k_AD) (fun r u => r = nI k ∧ u.1 = t1 ∧ u.2 = ad) (fun u U => k_H g u.2 u.1 U.heap) (k_A g)) (fun _ _ _ => False) 1 6 (k_A g)) (h2 : Met l yX5_damage wsX5_damage rm_X5_damage (va_Pc [.ref (ad 9 0), .int z1] (k_I g (k_ct g ad t1) ad)) (va_Qi (fun r u => r = rv ∧ u = w) (fun u U => k_H g ad u U.heap) (k_A g)) 0 0 (k_A g)) (hk : k < 2 ^ 31) (hm : m_l w = k) (ho : (k = 0 → l_o w 0 = rv.toInt64)) (hJ : k_J w) : pr_damage l g ad t z1 := by
  refine ⟨k, _, h1, hk, fun r t2 ad1 hp => ?_⟩
  obtain ⟨e1, e2, e3⟩ := hp
  have e2 : t2 = t1 := e2
  have e3 : ad1 = ad := e3
  subst e2
  subst e3
  refine ⟨e1, ⟨rfl, rfl, rfl⟩, _, h2, fun rv2 w2 hp2 => ?_⟩
  obtain ⟨e4, e5⟩ := hp2
  subst e4
  subst e5
  exact ⟨hm, ho, hJ⟩
theorem pr_drill_of {l : Launch} {g : k_g} {ad : k_AD} {t : k_T} {z1 : Int32} (k : Nat) {t1 w : k_T} {rv : Int32} (h1 : vx_Met l yL_drill wsL_drill rm_L_drill (va_Pc [.ref (ad 0 0), .int z1, .ref (ad 24 0)] (k_I g (k_ct g ad t) ad)) (va_Qi (S := k_T × k_AD) (fun r u => r = nI k ∧ u.1 = t1 ∧ u.2 = ad) (fun u U => k_H g u.2 u.1 U.heap) (k_A g)) (fun _ _ _ => False) 1 6 (k_A g)) (h2 : Met l yX5_drill wsX5_drill rm_X5_drill (va_Pc [.ref (ad 9 0), .int z1] (k_I g (k_ct g ad t1) ad)) (va_Qi (fun r u => r = rv ∧ u = w) (fun u U => k_H g ad u U.heap) (k_A g)) 0 0 (k_A g)) (hk : k < 2 ^ 31) (hm : m_l w = k) (ho : (k = 0 → l_o w 0 = rv.toInt64)) (hJ : k_J w) : pr_drill l g ad t z1 := by
  refine ⟨k, _, h1, hk, fun r t2 ad1 hp => ?_⟩
  obtain ⟨e1, e2, e3⟩ := hp
  have e2 : t2 = t1 := e2
  have e3 : ad1 = ad := e3
  subst e2
  subst e3
  refine ⟨e1, ⟨rfl, rfl, rfl⟩, _, h2, fun rv2 w2 hp2 => ?_⟩
  obtain ⟨e4, e5⟩ := hp2
  subst e4
  subst e5
  exact ⟨hm, ho, hJ⟩
theorem pr_setRules_of {l : Launch} {g : k_g} {ad : k_AD} {t : k_T} {z1 z2 z3 : Int32} (k : Nat) {t1 w : k_T} {rv : Int32} (h1 : vx_Met l yL_setRules wsL_setRules rm_L_setRules (va_Pc [.ref (ad 0 0), .int z1, .int z2, .int z3, .ref (ad 24 0)] (k_I g (k_ct g ad t) ad)) (va_Qi (S := k_T × k_AD) (fun r u => r = nI k ∧ u.1 = t1 ∧ u.2 = ad) (fun u U => k_H g u.2 u.1 U.heap) (k_A g)) (fun _ _ _ => False) 3 18 (k_A g)) (h2 : Met l yX5_setRules wsX5_setRules rm_X5_setRules (va_Pc [.ref (ad 9 0), .int z1, .int z2, .int z3] (k_I g (k_ct g ad t1) ad)) (va_Qi (fun r u => r = rv ∧ u = w) (fun u U => k_H g ad u U.heap) (k_A g)) 0 0 (k_A g)) (hk : k < 2 ^ 31) (hm : m_l w = k) (ho : (k = 0 → l_o w 0 = rv.toInt64)) (hJ : k_J w) : pr_setRules l g ad t z1 z2 z3 := by
  refine ⟨k, _, h1, hk, fun r t2 ad1 hp => ?_⟩
  obtain ⟨e1, e2, e3⟩ := hp
  have e2 : t2 = t1 := e2
  have e3 : ad1 = ad := e3
  subst e2
  subst e3
  refine ⟨e1, ⟨rfl, rfl, rfl⟩, _, h2, fun rv2 w2 hp2 => ?_⟩
  obtain ⟨e4, e5⟩ := hp2
  subst e4
  subst e5
  exact ⟨hm, ho, hJ⟩
theorem pr_dayOf_of {l : Launch} {g : k_g} {ad : k_AD} {t : k_T} {z1 : Int32} (k : Nat) {t1 w : k_T} {rv : Int32} (h1 : vx_Met l yL_dayOf wsL_dayOf rm_L_dayOf (va_Pc [.ref (ad 0 0), .int z1, .ref (ad 24 0)] (k_I g (k_ct g ad t) ad)) (va_Qi (S := k_T × k_AD) (fun r u => r = nI k ∧ u.1 = t1 ∧ u.2 = ad) (fun u U => k_H g u.2 u.1 U.heap) (k_A g)) (fun _ _ _ => False) 1 6 (k_A g)) (h2 : Met l yX5_dayOf wsX5_dayOf rm_X5_dayOf (va_Pc [.ref (ad 9 0), .int z1] (k_I g (k_ct g ad t1) ad)) (va_Qi (fun r u => r = rv ∧ u = w) (fun u U => k_H g ad u U.heap) (k_A g)) 0 0 (k_A g)) (hk : k < 2 ^ 31) (hm : m_l w = k) (ho : (k = 0 → l_o w 0 = rv.toInt64)) (hJ : k_J w) : pr_dayOf l g ad t z1 := by
  refine ⟨k, _, h1, hk, fun r t2 ad1 hp => ?_⟩
  obtain ⟨e1, e2, e3⟩ := hp
  have e2 : t2 = t1 := e2
  have e3 : ad1 = ad := e3
  subst e2
  subst e3
  refine ⟨e1, ⟨rfl, rfl, rfl⟩, _, h2, fun rv2 w2 hp2 => ?_⟩
  obtain ⟨e4, e5⟩ := hp2
  subst e4
  subst e5
  exact ⟨hm, ho, hJ⟩
theorem pr_baseOf_of {l : Launch} {g : k_g} {ad : k_AD} {t : k_T} {z1 : Int32} (k : Nat) {t1 w : k_T} {rv : Int32} (h1 : vx_Met l yL_baseOf wsL_baseOf rm_L_baseOf (va_Pc [.ref (ad 0 0), .int z1, .ref (ad 24 0)] (k_I g (k_ct g ad t) ad)) (va_Qi (S := k_T × k_AD) (fun r u => r = nI k ∧ u.1 = t1 ∧ u.2 = ad) (fun u U => k_H g u.2 u.1 U.heap) (k_A g)) (fun _ _ _ => False) 1 6 (k_A g)) (h2 : Met l yX5_baseOf wsX5_baseOf rm_X5_baseOf (va_Pc [.ref (ad 9 0), .int z1] (k_I g (k_ct g ad t1) ad)) (va_Qi (fun r u => r = rv ∧ u = w) (fun u U => k_H g ad u U.heap) (k_A g)) 0 0 (k_A g)) (hk : k < 2 ^ 31) (hm : m_l w = k) (ho : (k = 0 → l_o w 0 = rv.toInt64)) (hJ : k_J w) : pr_baseOf l g ad t z1 := by
  refine ⟨k, _, h1, hk, fun r t2 ad1 hp => ?_⟩
  obtain ⟨e1, e2, e3⟩ := hp
  have e2 : t2 = t1 := e2
  have e3 : ad1 = ad := e3
  subst e2
  subst e3
  refine ⟨e1, ⟨rfl, rfl, rfl⟩, _, h2, fun rv2 w2 hp2 => ?_⟩
  obtain ⟨e4, e5⟩ := hp2
  subst e4
  subst e5
  exact ⟨hm, ho, hJ⟩
theorem pr_keeps_of {l : Launch} {g : k_g} {ad : k_AD} {t : k_T} {z1 : Int32} (k : Nat) {t1 w : k_T} {rv : Int32} (h1 : vx_Met l yL_keeps wsL_keeps rm_L_keeps (va_Pc [.ref (ad 0 0), .int z1, .ref (ad 24 0)] (k_I g (k_ct g ad t) ad)) (va_Qi (S := k_T × k_AD) (fun r u => r = nI k ∧ u.1 = t1 ∧ u.2 = ad) (fun u U => k_H g u.2 u.1 U.heap) (k_A g)) (fun _ _ _ => False) 1 6 (k_A g)) (h2 : Met l yX5_keeps wsX5_keeps rm_X5_keeps (va_Pc [.ref (ad 9 0), .int z1] (k_I g (k_ct g ad t1) ad)) (va_Qi (fun r u => r = rv ∧ u = w) (fun u U => k_H g ad u U.heap) (k_A g)) 0 0 (k_A g)) (hk : k < 2 ^ 31) (hm : m_l w = k) (ho : (k = 0 → l_o w 0 = rv.toInt64)) (hJ : k_J w) : pr_keeps l g ad t z1 := by
  refine ⟨k, _, h1, hk, fun r t2 ad1 hp => ?_⟩
  obtain ⟨e1, e2, e3⟩ := hp
  have e2 : t2 = t1 := e2
  have e3 : ad1 = ad := e3
  subst e2
  subst e3
  refine ⟨e1, ⟨rfl, rfl, rfl⟩, _, h2, fun rv2 w2 hp2 => ?_⟩
  obtain ⟨e4, e5⟩ := hp2
  subst e4
  subst e5
  exact ⟨hm, ho, hJ⟩
theorem pr_isPromised_of {l : Launch} {g : k_g} {ad : k_AD} {t : k_T} {z1 : Int32} (k : Nat) {t1 w : k_T} {rv : Int32} (h1 : vx_Met l yL_isPromised wsL_isPromised rm_L_isPromised (va_Pc [.ref (ad 0 0), .int z1, .ref (ad 24 0)] (k_I g (k_ct g ad t) ad)) (va_Qi (S := k_T × k_AD) (fun r u => r = nI k ∧ u.1 = t1 ∧ u.2 = ad) (fun u U => k_H g u.2 u.1 U.heap) (k_A g)) (fun _ _ _ => False) 1 6 (k_A g)) (h2 : Met l yX5_isPromised wsX5_isPromised rm_X5_isPromised (va_Pc [.ref (ad 9 0), .int z1] (k_I g (k_ct g ad t1) ad)) (va_Qi (fun r u => r = rv ∧ u = w) (fun u U => k_H g ad u U.heap) (k_A g)) 0 0 (k_A g)) (hk : k < 2 ^ 31) (hm : m_l w = k) (ho : (k = 0 → ∃ q : Bool, rv = kb q ∧ l_o w 0 = k_bl q)) (hJ : k_J w) : pr_isPromised l g ad t z1 := by
  refine ⟨k, _, h1, hk, fun r t2 ad1 hp => ?_⟩
  obtain ⟨e1, e2, e3⟩ := hp
  have e2 : t2 = t1 := e2
  have e3 : ad1 = ad := e3
  subst e2
  subst e3
  refine ⟨e1, ⟨rfl, rfl, rfl⟩, _, h2, fun rv2 w2 hp2 => ?_⟩
  obtain ⟨e4, e5⟩ := hp2
  subst e4
  subst e5
  exact ⟨hm, ho, hJ⟩
theorem pr_isNeeded_of {l : Launch} {g : k_g} {ad : k_AD} {t : k_T} {z1 : Int32} (k : Nat) {t1 w : k_T} {rv : Int32} (h1 : vx_Met l yL_isNeeded wsL_isNeeded rm_L_isNeeded (va_Pc [.ref (ad 0 0), .int z1, .ref (ad 24 0)] (k_I g (k_ct g ad t) ad)) (va_Qi (S := k_T × k_AD) (fun r u => r = nI k ∧ u.1 = t1 ∧ u.2 = ad) (fun u U => k_H g u.2 u.1 U.heap) (k_A g)) (fun _ _ _ => False) 1 6 (k_A g)) (h2 : Met l yX5_isNeeded wsX5_isNeeded rm_X5_isNeeded (va_Pc [.ref (ad 9 0), .int z1] (k_I g (k_ct g ad t1) ad)) (va_Qi (fun r u => r = rv ∧ u = w) (fun u U => k_H g ad u U.heap) (k_A g)) 0 0 (k_A g)) (hk : k < 2 ^ 31) (hm : m_l w = k) (ho : (k = 0 → ∃ q : Bool, rv = kb q ∧ l_o w 0 = k_bl q)) (hJ : k_J w) : pr_isNeeded l g ad t z1 := by
  refine ⟨k, _, h1, hk, fun r t2 ad1 hp => ?_⟩
  obtain ⟨e1, e2, e3⟩ := hp
  have e2 : t2 = t1 := e2
  have e3 : ad1 = ad := e3
  subst e2
  subst e3
  refine ⟨e1, ⟨rfl, rfl, rfl⟩, _, h2, fun rv2 w2 hp2 => ?_⟩
  obtain ⟨e4, e5⟩ := hp2
  subst e4
  subst e5
  exact ⟨hm, ho, hJ⟩
theorem pr_isProved_of {l : Launch} {g : k_g} {ad : k_AD} {t : k_T} {z1 : Int32} (k : Nat) {t1 w : k_T} {rv : Int32} (h1 : vx_Met l yL_isProved wsL_isProved rm_L_isProved (va_Pc [.ref (ad 0 0), .int z1, .ref (ad 24 0)] (k_I g (k_ct g ad t) ad)) (va_Qi (S := k_T × k_AD) (fun r u => r = nI k ∧ u.1 = t1 ∧ u.2 = ad) (fun u U => k_H g u.2 u.1 U.heap) (k_A g)) (fun _ _ _ => False) 1 6 (k_A g)) (h2 : Met l yX5_isProved wsX5_isProved rm_X5_isProved (va_Pc [.ref (ad 9 0), .int z1] (k_I g (k_ct g ad t1) ad)) (va_Qi (fun r u => r = rv ∧ u = w) (fun u U => k_H g ad u U.heap) (k_A g)) 0 0 (k_A g)) (hk : k < 2 ^ 31) (hm : m_l w = k) (ho : (k = 0 → ∃ q : Bool, rv = kb q ∧ l_o w 0 = k_bl q)) (hJ : k_J w) : pr_isProved l g ad t z1 := by
  refine ⟨k, _, h1, hk, fun r t2 ad1 hp => ?_⟩
  obtain ⟨e1, e2, e3⟩ := hp
  have e2 : t2 = t1 := e2
  have e3 : ad1 = ad := e3
  subst e2
  subst e3
  refine ⟨e1, ⟨rfl, rfl, rfl⟩, _, h2, fun rv2 w2 hp2 => ?_⟩
  obtain ⟨e4, e5⟩ := hp2
  subst e4
  subst e5
  exact ⟨hm, ho, hJ⟩
theorem pr_restore_of {l : Launch} {g : k_g} {ad : k_AD} {t : k_T} {z1 z2 : Int32} (k : Nat) {t1 w : k_T} {rv : Int32} (h1 : vx_Met l yL_restore wsL_restore rm_L_restore (va_Pc [.ref (ad 0 0), .int z1, .int z2, .ref (ad 24 0)] (k_I g (k_ct g ad t) ad)) (va_Qi (S := k_T × k_AD) (fun r u => r = nI k ∧ u.1 = t1 ∧ u.2 = ad) (fun u U => k_H g u.2 u.1 U.heap) (k_A g)) (fun _ _ _ => False) 2 12 (k_A g)) (h2 : Met l yX5_restore wsX5_restore rm_X5_restore (va_Pc [.ref (ad 9 0), .int z1, .int z2] (k_I g (k_ct g ad t1) ad)) (va_Qi (fun r u => r = rv ∧ u = w) (fun u U => k_H g ad u U.heap) (k_A g)) 0 0 (k_A g)) (hk : k < 2 ^ 31) (hm : m_l w = k) (ho : (k = 0 → l_o w 0 = rv.toInt64)) (hJ : k_J w) : pr_restore l g ad t z1 z2 := by
  refine ⟨k, _, h1, hk, fun r t2 ad1 hp => ?_⟩
  obtain ⟨e1, e2, e3⟩ := hp
  have e2 : t2 = t1 := e2
  have e3 : ad1 = ad := e3
  subst e2
  subst e3
  refine ⟨e1, ⟨rfl, rfl, rfl⟩, _, h2, fun rv2 w2 hp2 => ?_⟩
  obtain ⟨e4, e5⟩ := hp2
  subst e4
  subst e5
  exact ⟨hm, ho, hJ⟩
theorem pr_restoreByChanges_of {l : Launch} {g : k_g} {ad : k_AD} {t : k_T} {z1 z2 : Int32} (k : Nat) {t1 w : k_T} {rv : Int32} (h1 : vx_Met l yL_restoreByChanges wsL_restoreByChanges rm_L_restoreByChanges (va_Pc [.ref (ad 0 0), .int z1, .int z2, .ref (ad 24 0)] (k_I g (k_ct g ad t) ad)) (va_Qi (S := k_T × k_AD) (fun r u => r = nI k ∧ u.1 = t1 ∧ u.2 = ad) (fun u U => k_H g u.2 u.1 U.heap) (k_A g)) (fun _ _ _ => False) 2 12 (k_A g)) (h2 : Met l yX5_restoreByChanges wsX5_restoreByChanges rm_X5_restoreByChanges (va_Pc [.ref (ad 9 0), .int z1, .int z2] (k_I g (k_ct g ad t1) ad)) (va_Qi (fun r u => r = rv ∧ u = w) (fun u U => k_H g ad u U.heap) (k_A g)) 0 0 (k_A g)) (hk : k < 2 ^ 31) (hm : m_l w = k) (ho : (k = 0 → l_o w 0 = rv.toInt64)) (hJ : k_J w) : pr_restoreByChanges l g ad t z1 z2 := by
  refine ⟨k, _, h1, hk, fun r t2 ad1 hp => ?_⟩
  obtain ⟨e1, e2, e3⟩ := hp
  have e2 : t2 = t1 := e2
  have e3 : ad1 = ad := e3
  subst e2
  subst e3
  refine ⟨e1, ⟨rfl, rfl, rfl⟩, _, h2, fun rv2 w2 hp2 => ?_⟩
  obtain ⟨e4, e5⟩ := hp2
  subst e4
  subst e5
  exact ⟨hm, ho, hJ⟩
theorem pr_onCall_of {l : Launch} {g : k_g} {ad : k_AD} {t : k_T} {z1 : Int32} (k : Nat) {t1 w : k_T} {rv : Int32} (h1 : vx_Met l yL_onCall wsL_onCall rm_L_onCall (va_Pc [.ref (ad 0 0), .int z1, .ref (ad 24 0)] (k_I g (k_ct g ad t) ad)) (va_Qi (S := k_T × k_AD) (fun r u => r = nI k ∧ u.1 = t1 ∧ u.2 = ad) (fun u U => k_H g u.2 u.1 U.heap) (k_A g)) (fun _ _ _ => False) 1 6 (k_A g)) (h2 : Met l yX5_onCall wsX5_onCall rm_X5_onCall (va_Pc [.ref (ad 9 0), .int z1] (k_I g (k_ct g ad t1) ad)) (va_Qi (fun r u => r = rv ∧ u = w) (fun u U => k_H g ad u U.heap) (k_A g)) 0 0 (k_A g)) (hk : k < 2 ^ 31) (hm : m_l w = k) (ho : (k = 0 → l_o w 0 = rv.toInt64)) (hJ : k_J w) : pr_onCall l g ad t z1 := by
  refine ⟨k, _, h1, hk, fun r t2 ad1 hp => ?_⟩
  obtain ⟨e1, e2, e3⟩ := hp
  have e2 : t2 = t1 := e2
  have e3 : ad1 = ad := e3
  subst e2
  subst e3
  refine ⟨e1, ⟨rfl, rfl, rfl⟩, _, h2, fun rv2 w2 hp2 => ?_⟩
  obtain ⟨e4, e5⟩ := hp2
  subst e4
  subst e5
  exact ⟨hm, ho, hJ⟩
theorem pr_swap_of {l : Launch} {g : k_g} {ad : k_AD} {t : k_T} {z1 z2 : Int32} (k : Nat) {t1 w : k_T} {rv : Int32} (h1 : vx_Met l yL_swap wsL_swap rm_L_swap (va_Pc [.ref (ad 0 0), .int z1, .int z2, .ref (ad 24 0)] (k_I g (k_ct g ad t) ad)) (va_Qi (S := k_T × k_AD) (fun r u => r = nI k ∧ u.1 = t1 ∧ u.2 = ad) (fun u U => k_H g u.2 u.1 U.heap) (k_A g)) (fun _ _ _ => False) 2 12 (k_A g)) (h2 : Met l yX5_swap wsX5_swap rm_X5_swap (va_Pc [.ref (ad 9 0), .int z1, .int z2] (k_I g (k_ct g ad t1) ad)) (va_Qi (fun r u => r = rv ∧ u = w) (fun u U => k_H g ad u U.heap) (k_A g)) 0 0 (k_A g)) (hk : k < 2 ^ 31) (hm : m_l w = k) (ho : (k = 0 → l_o w 0 = rv.toInt64)) (hJ : k_J w) : pr_swap l g ad t z1 z2 := by
  refine ⟨k, _, h1, hk, fun r t2 ad1 hp => ?_⟩
  obtain ⟨e1, e2, e3⟩ := hp
  have e2 : t2 = t1 := e2
  have e3 : ad1 = ad := e3
  subst e2
  subst e3
  refine ⟨e1, ⟨rfl, rfl, rfl⟩, _, h2, fun rv2 w2 hp2 => ?_⟩
  obtain ⟨e4, e5⟩ := hp2
  subst e4
  subst e5
  exact ⟨hm, ho, hJ⟩
theorem pr_alarm_of {l : Launch} {g : k_g} {ad : k_AD} {t : k_T} {z1 : Int32} (k : Nat) {t1 w : k_T} {rv : Int32} (h1 : vx_Met l yL_alarm wsL_alarm rm_L_alarm (va_Pc [.ref (ad 0 0), .int z1, .ref (ad 24 0)] (k_I g (k_ct g ad t) ad)) (va_Qi (S := k_T × k_AD) (fun r u => r = nI k ∧ u.1 = t1 ∧ u.2 = ad) (fun u U => k_H g u.2 u.1 U.heap) (k_A g)) (fun _ _ _ => False) 1 6 (k_A g)) (h2 : Met l yX5_alarm wsX5_alarm rm_X5_alarm (va_Pc [.ref (ad 9 0), .int z1] (k_I g (k_ct g ad t1) ad)) (va_Qi (fun r u => r = rv ∧ u = w) (fun u U => k_H g ad u U.heap) (k_A g)) 0 0 (k_A g)) (hk : k < 2 ^ 31) (hm : m_l w = k) (ho : (k = 0 → l_o w 0 = rv.toInt64)) (hJ : k_J w) : pr_alarm l g ad t z1 := by
  refine ⟨k, _, h1, hk, fun r t2 ad1 hp => ?_⟩
  obtain ⟨e1, e2, e3⟩ := hp
  have e2 : t2 = t1 := e2
  have e3 : ad1 = ad := e3
  subst e2
  subst e3
  refine ⟨e1, ⟨rfl, rfl, rfl⟩, _, h2, fun rv2 w2 hp2 => ?_⟩
  obtain ⟨e4, e5⟩ := hp2
  subst e4
  subst e5
  exact ⟨hm, ho, hJ⟩
set_option maxRecDepth 100000 in
set_option maxHeartbeats 4000000 in
theorem pa_change (l : Launch) (hlt : l.stackTraces = false) (g : k_g) (ad : k_AD) (t : k_T) (J : k_J t) (z v : Int32) : pr_change l g ad t z v := by
  rcases lw_file z with h | ⟨j, hj, rfl⟩
  · exact pr_change_of 1 (cw_change_bf l hlt g ad t z v h) (c_X5_change_bf l hlt g ad t z v h J.fn3) (by decide) rfl (fun q => absurd q (by decide)) J.sl
  · rcases lw_upto v (M := 99) (by decide) with h | ⟨x, hx, rfl⟩
    · exact pr_change_of 2 (cw_change_bc l hlt g ad t j v hj h) (c_X5_change_bc l hlt g ad t j v hj h J.fn3) (by decide) rfl (fun q => absurd q (by decide)) J.sl
    · have hv1 : ¬ nI x < 0 := nI_pos (by omega)
      have hv2 : nI x ≤ nI 99 := nI_le hx (by decide)
      have hv3 : nI x ≠ -1 := fun q => hv1 (by rw [q]; decide)
      rcases Nat.lt_or_ge (m_n t) 300 with h | h
      · exact pr_change_of 0 (cw_change_ok l hlt g ad t j (nI x) hj hv1 hv2 (by rw [J.fn]; exact h)) (c_X5_change_ok l hlt g ad _ j (nI x) hj hv1 hv2 h) (by decide) rfl (fun _ => by show va_up (l_o t) 0 ((f_c t j).toInt64) 0 = (m_c t j).toInt64; rw [va_up_self, J.fc]) (J.change hj hv3 h)
      · exact pr_change_of 3 (cw_change_fu l hlt g ad t j (nI x) hj hv1 hv2 J.fn4 (by rw [J.fn]; exact h)) (c_X5_change_fu l hlt g ad t j (nI x) hj hv1 hv2 J.fn3 h) (by decide) rfl (fun q => absurd q (by decide)) J.sl
set_option maxRecDepth 100000 in
set_option maxHeartbeats 4000000 in
theorem pa_pass (l : Launch) (hlt : l.stackTraces = false) (g : k_g) (ad : k_AD) (t : k_T) (J : k_J t) (z : Int32) : pr_pass l g ad t z := by
  have hb : (z < nI 1 ∨ nI 30 < z) ∨ ∃ w, 1 ≤ w ∧ w ≤ 30 ∧ z = nI w := by
    rcases k_split z (M := 30) (by decide) with h | h | ⟨w, hw, h⟩
    · exact Or.inl (Or.inl (Int32.lt_trans h (by decide)))
    · exact Or.inl (Or.inr h)
    · rcases Nat.eq_zero_or_pos w with q | q
      · exact Or.inl (Or.inl (by rw [h, q]; decide))
      · exact Or.inr ⟨w, q, hw, h⟩
  rcases hb with h | ⟨w, h1, h2, rfl⟩
  · exact pr_pass_of 1 (cw_pass_b l hlt g ad t z h) (c_X5_pass_b l hlt g ad t z h) (by decide) rfl (fun q => absurd q (by decide)) J.sl
  · rcases Nat.lt_or_ge 360 (m_d t + w) with h | h
    · exact pr_pass_of 2 (cw_pass_is l hlt g ad t w J.xd3 h1 h2 (by rw [J.xd]; exact h)) (c_X5_pass_is l hlt g ad t w J.d360 h1 h2 h) (by decide) rfl (fun q => absurd q (by decide)) J.sl
    · exact pr_pass_of 0 (cw_pass_ok l hlt g ad t w J.xd3 h1 h2 (by rw [J.xd]; exact h)) (c_X5_pass_ok l hlt g ad _ w J.d360 h1 h2 h) (by decide) rfl (fun _ => by show va_up (l_o t) 0 ((nI (x_d t + w)).toInt64) 0 = (nI (m_d t + w)).toInt64; rw [va_up_self, J.xd]) (J.pass2 h)
set_option maxRecDepth 100000 in
set_option maxHeartbeats 4000000 in
theorem pa_full (l : Launch) (hlt : l.stackTraces = false) (g : k_g) (ad : k_AD) (t : k_T) (J : k_J t) : pr_full l g ad t := by
  rcases Nat.lt_or_ge (m_md t) 60 with h | h
  · exact pr_full_of2 0 (cw_full_ok l hlt g ad t (by rw [J.md]; exact h) (by rw [J.md]; exact J.onn) J.fcn J.hwf J.hbs) (fun ad1 => c_X5_full_ok l hlt g ad1 _ h (J.sz0 _ (Nat.le_refl _)) J.fn3) (by decide) rfl (fun _ => by show va_up (l_o t) 0 ((nI (s_md t)).toInt64) 0 = (nI (m_md t)).toInt64; rw [va_up_self, J.md]) (J.made h (fun b q => by cases q) J.full_ks J.full_ct (fun _ _ _ => rfl) J.full_fk)
  · have h : m_md t = 60 := Nat.le_antisymm J.m60 h
    exact pr_full_of 1 (cw_full_is l hlt g ad t (by rw [J.md]; exact h)) (c_X5_full_is l hlt g ad t h) (by decide) rfl (fun q => absurd q (by decide)) J.sl
set_option maxRecDepth 100000 in
set_option maxHeartbeats 4000000 in
theorem pa_increment (l : Launch) (hlt : l.stackTraces = false) (g : k_g) (ad : k_AD) (t : k_T) (J : k_J t) : pr_increment l g ad t := by
  have hs60 : s_md t ≤ 60 := by rw [J.md]; exact J.m60
  rcases Nat.lt_or_ge (m_md t) 60 with h | h
  · cases hla : k_la (m_th t) (m_md t) with
    | none => exact pr_increment_of 1 (cw_increment_is l hlt g ad t hs60 J.hbs (Or.inr (J.laz.trans hla))) (c_X5_increment_i2 l hlt g ad t h hla) (by decide) rfl (fun q => absurd q (by decide)) J.sl
    | some b0 =>
      have hb0 : b0 < m_md t := (k_la_some _ hla).2
      exact pr_increment_of2 0 (cw_increment_ok l hlt g ad t b0 (by rw [J.md]; exact h) (by rw [J.md]; exact J.onn) J.fcn J.hwf J.hbs (J.laz.trans hla) (by rw [J.md]; exact hb0) (J.inb hb0) J.fn4 J.flf2) (fun ad1 => c_X5_increment_ok l hlt g ad1 _ b0 h hla (J.sz0 _ (Nat.le_refl _)) J.fn3 hb0 (fun i hi => Nat.le_trans (J.ch i hi) J.fn3) (fun k hk => Nat.le_trans (J.cab k hk) J.fn3)) (by decide) rfl (fun _ => by show va_up (l_o t) 0 ((nI (s_md t)).toInt64) 0 = (nI (m_md t)).toInt64; rw [va_up_self, J.md]) (J.made h (fun b q => by cases q; exact (k_la_some _ hla).1) (J.inc_ks hb0) (J.inc_ct hb0) (fun q => by cases q) (J.inc_fk hb0))
  · have h : m_md t = 60 := Nat.le_antisymm J.m60 h
    exact pr_increment_of 1 (cw_increment_is l hlt g ad t hs60 J.hbs (Or.inl (by rw [J.md]; exact h))) (c_X5_increment_i1 l hlt g ad t h) (by decide) rfl (fun q => absurd q (by decide)) J.sl
set_option maxRecDepth 100000 in
set_option maxHeartbeats 4000000 in
theorem pa_damage (l : Launch) (hlt : l.stackTraces = false) (g : k_g) (ad : k_AD) (t : k_T) (J : k_J t) (z : Int32) : pr_damage l g ad t z := by
  rcases lw_copy t z with h | ⟨j, hj, rfl, ht⟩
  · exact pr_damage_of 1 (cw_damage_b l hlt g ad t z (J.noc h)) (c_X5_damage_b l hlt g ad t z h J.m60) (by decide) rfl (fun q => absurd q (by decide)) J.sl
  · have hs := J.sth ht
    have hlt2 := J.wf j ht
    exact pr_damage_of 0 (cw_damage_ok l hlt g ad t j hj hs J.hwf J.hbs J.hth J.hn60 J.hon J.s1 J.s2 J.s3) (c_X5_damage_ok l hlt g ad _ j hj ht J.wf J.m60 J.blt J.onb J.r1b J.r2b J.r3b) (by decide) rfl (fun _ => by show va_up (l_o t) 0 ((nI (k_cb (fun k => ((s_th t) k && (k_Pm (s_th t) (o_pm t) (o_on t) (s_r1 t) (s_r2 t) (s_r3 t)) k) && (k_cl (o_b t) k).any (va_up (o_dm t) j true)) 60)).toInt64) 0 = (nI (k_cb (fun k => (k_PmM (m_md t) (m_th t) (m_pm t) (m_on t) (m_r1 t) (m_r2 t) (m_r3 t)) k && (k_cl (m_b t) k).any (va_up (m_dm t) j true)) (m_md t))).toInt64; rw [va_up_self, J.dmg]) (J.damage hlt2)
set_option maxRecDepth 100000 in
set_option maxHeartbeats 4000000 in
theorem pa_drill (l : Launch) (hlt : l.stackTraces = false) (g : k_g) (ad : k_AD) (t : k_T) (J : k_J t) (z : Int32) : pr_drill l g ad t z := by
  rcases lw_copy t z with h | ⟨j, hj, rfl, ht⟩
  · exact pr_drill_of 1 (cw_drill_b l hlt g ad t z (J.noc h)) (c_X5_drill_b l hlt g ad t z h J.m60) (by decide) rfl (fun q => absurd q (by decide)) J.sl
  · have hs := J.sth ht
    have hlt2 := J.wf j ht
    cases ha : (k_cl (m_b t) j).any (m_dm t) with
    | false => exact pr_drill_of 0 (cw_drill_ok l hlt g ad t j hj hs J.hwf J.hbs ((J.any hlt2).trans ha)) (c_X5_drill_ok l hlt g ad _ j hj ht J.wf J.m60 J.blt ha) (by decide) rfl (fun _ => by show va_up (l_o t) 0 ((nI ((k_cl (o_b t) j).length)).toInt64) 0 = (nI ((k_cl (m_b t) j).length)).toInt64; rw [va_up_self, J.cl hlt2]) (J.drill (J.drl hlt2) (J.drl2 hlt2))
    | true => exact pr_drill_of 0 (cw_drill_no l hlt g ad t j hj hs J.hwf J.hbs ((J.any hlt2).trans ha)) (c_X5_drill_no l hlt g ad _ j hj ht J.wf J.m60 J.blt ha) (by decide) rfl (fun _ => by show va_up (l_o t) 0 (((-1) : Int32).toInt64) 0 = ((-1) : Int32).toInt64; rw [va_up_self]) (J.drill (J.drl hlt2) (J.drl2 hlt2))
set_option maxRecDepth 100000 in
set_option maxHeartbeats 4000000 in
theorem pa_setRules (l : Launch) (hlt : l.stackTraces = false) (g : k_g) (ad : k_AD) (t : k_T) (J : k_J t) (z y x : Int32) : pr_setRules l g ad t z y x := by
  rcases lw_upto z (M := 30) (by decide) with h | ⟨ra, h1, rfl⟩
  · exact pr_setRules_of 1 (cw_setRules_1b l hlt g ad t z y x h) (c_X5_setRules_1b l hlt g ad t z y x h) (by decide) rfl (fun q => absurd q (by decide)) J.sl
  · rcases lw_upto y (M := 20) (by decide) with h | ⟨rb, h2, rfl⟩
    · exact pr_setRules_of 1 (cw_setRules_2b l hlt g ad t ra y x h1 h) (c_X5_setRules_2b l hlt g ad t ra y x h1 h) (by decide) rfl (fun q => absurd q (by decide)) J.sl
    · rcases lw_upto x (M := 12) (by decide) with h | ⟨rc, h3, rfl⟩
      · exact pr_setRules_of 1 (cw_setRules_3b l hlt g ad t ra rb x h1 h2 h) (c_X5_setRules_3b l hlt g ad t ra rb x h1 h2 h) (by decide) rfl (fun q => absurd q (by decide)) J.sl
      · exact pr_setRules_of 0 (cw_setRules_ok l hlt g ad t ra rb rc h1 h2 h3 J.hwf J.hbs J.hth J.hn60 J.hon) (c_X5_setRules_ok l hlt g ad _ ra rb rc h1 h2 h3 J.m60 J.blt J.onb) (by decide) rfl (fun _ => by show va_up (l_o t) 0 ((nI (k_cb (fun k => (s_th t) k && (k_Pm (s_th t) (o_pm t) (o_on t) (ra) (rb) (rc)) k) 60)).toInt64) 0 = (nI (k_cb (k_PmM (m_md t) (m_th t) (m_pm t) (m_on t) (ra) (rb) (rc)) (m_md t))).toInt64; rw [va_up_self, J.cntP]) (J.setRules h1 h2 h3)
set_option maxRecDepth 100000 in
set_option maxHeartbeats 4000000 in
theorem pa_dayOf (l : Launch) (hlt : l.stackTraces = false) (g : k_g) (ad : k_AD) (t : k_T) (J : k_J t) (z : Int32) : pr_dayOf l g ad t z := by
  rcases lw_copy t z with h | ⟨j, hj, rfl, ht⟩
  · exact pr_dayOf_of 1 (cw_dayOf_b l hlt g ad t z (J.noc h)) (c_X5_dayOf_b l hlt g ad t z h J.m60) (by decide) rfl (fun q => absurd q (by decide)) J.sl
  · have hs := J.sth ht
    have hlt2 := J.wf j ht
    exact pr_dayOf_of 0 (cw_dayOf_ok l hlt g ad t j hj hs J.hwf) (c_X5_dayOf_ok l hlt g ad _ j hj ht J.wf J.m60) (by decide) rfl (fun _ => by show va_up (l_o t) 0 ((nI (o_on t j)).toInt64) 0 = (nI (m_on t j)).toInt64; rw [va_up_self, J.on j hlt2]) J.so.sl
set_option maxRecDepth 100000 in
set_option maxHeartbeats 4000000 in
theorem pa_baseOf (l : Launch) (hlt : l.stackTraces = false) (g : k_g) (ad : k_AD) (t : k_T) (J : k_J t) (z : Int32) : pr_baseOf l g ad t z := by
  rcases lw_copy t z with h | ⟨j, hj, rfl, ht⟩
  · exact pr_baseOf_of 1 (cw_baseOf_b l hlt g ad t z (J.noc h)) (c_X5_baseOf_b l hlt g ad t z h J.m60) (by decide) rfl (fun q => absurd q (by decide)) J.sl
  · have hs := J.sth ht
    have hlt2 := J.wf j ht
    exact pr_baseOf_of 0 (cw_baseOf_ok l hlt g ad t j hj hs J.hwf J.hbs) (c_X5_baseOf_ok l hlt g ad _ j hj ht J.wf J.m60) (by decide) rfl (fun _ => by show va_up (l_o t) 0 ((kO (o_b t j)).toInt64) 0 = (kO (m_b t j)).toInt64; rw [va_up_self, J.b j hlt2]) J.so.sl
set_option maxRecDepth 100000 in
set_option maxHeartbeats 4000000 in
theorem pa_keeps (l : Launch) (hlt : l.stackTraces = false) (g : k_g) (ad : k_AD) (t : k_T) (J : k_J t) (z : Int32) : pr_keeps l g ad t z := by
  rcases lw_copy t z with h | ⟨j, hj, rfl, ht⟩
  · exact pr_keeps_of 1 (cw_keeps_b l hlt g ad t z (J.noc h)) (c_X5_keeps_b l hlt g ad t z h J.m60) (by decide) rfl (fun q => absurd q (by decide)) J.sl
  · have hs := J.sth ht
    have hlt2 := J.wf j ht
    exact pr_keeps_of 0 (cw_keeps_ok l hlt g ad t j hj hs J.hwf) (c_X5_keeps_ok l hlt g ad _ j hj ht J.wf J.m60) (by decide) rfl (fun _ => by show va_up (l_o t) 0 ((nI (o_kc t j)).toInt64) 0 = (nI (m_sz t j)).toInt64; rw [va_up_self, J.kc j hlt2]) J.so.sl
set_option maxRecDepth 100000 in
set_option maxHeartbeats 4000000 in
theorem pa_isPromised (l : Launch) (hlt : l.stackTraces = false) (g : k_g) (ad : k_AD) (t : k_T) (J : k_J t) (z : Int32) : pr_isPromised l g ad t z := by
  rcases lw_copy t z with h | ⟨j, hj, rfl, ht⟩
  · exact pr_isPromised_of 1 (cw_isPromised_b l hlt g ad t z (J.noc h)) (c_X5_isPromised_b l hlt g ad t z h J.m60 J.blt J.onb J.r1b J.r2b J.r3b) (by decide) rfl (fun q => absurd q (by decide)) J.markb
  · have hs := J.sth ht
    exact pr_isPromised_of 0 (cw_isPromised_ok l hlt g ad t j hj hs J.hwf J.hbs J.hth J.hn60 J.hon J.s1 J.s2 J.s3) (c_X5_isPromised_ok l hlt g ad _ j hj ht J.wf J.m60 J.blt J.onb J.r1b J.r2b J.r3b) (by decide) rfl (fun _ => ⟨_, rfl, by show va_up (l_o t) 0 (k_bl ((k_Pm (s_th t) (o_pm t) (o_on t) (s_r1 t) (s_r2 t) (s_r3 t)) j)) 0 = k_bl ((k_PmM (m_md t) (m_th t) (m_pm t) (m_on t) (m_r1 t) (m_r2 t) (m_r3 t)) j); rw [va_up_self, J.pmj ht]⟩) J.mark
set_option maxRecDepth 100000 in
set_option maxHeartbeats 4000000 in
theorem pa_isNeeded (l : Launch) (hlt : l.stackTraces = false) (g : k_g) (ad : k_AD) (t : k_T) (J : k_J t) (z : Int32) : pr_isNeeded l g ad t z := by
  rcases lw_copy t z with h | ⟨j, hj, rfl, ht⟩
  · exact pr_isNeeded_of 1 (cw_isNeeded_b l hlt g ad t z (J.noc h)) (c_X5_isNeeded_b l hlt g ad t z h J.m60 J.blt J.onb J.r1b J.r2b J.r3b) (by decide) rfl (fun q => absurd q (by decide)) J.markb
  · have hs := J.sth ht
    exact pr_isNeeded_of 0 (cw_isNeeded_ok l hlt g ad t j hj hs J.hwf J.hbs J.hth J.hn60 J.hon J.s1 J.s2 J.s3) (c_X5_isNeeded_ok l hlt g ad _ j hj ht J.wf J.m60 J.blt J.onb J.r1b J.r2b J.r3b) (by decide) rfl (fun _ => ⟨_, rfl, by show va_up (l_o t) 0 (k_bl ((k_Nm (s_th t) (o_nd t) (k_Pm (s_th t) (o_pm t) (o_on t) (s_r1 t) (s_r2 t) (s_r3 t)) (o_b t)) j)) 0 = k_bl ((k_NmM (m_md t) (m_nd t) (k_PmM (m_md t) (m_th t) (m_pm t) (m_on t) (m_r1 t) (m_r2 t) (m_r3 t)) (m_b t)) j); rw [va_up_self, J.ndj ht]⟩) J.mark
set_option maxRecDepth 100000 in
set_option maxHeartbeats 4000000 in
theorem pa_isProved (l : Launch) (hlt : l.stackTraces = false) (g : k_g) (ad : k_AD) (t : k_T) (J : k_J t) (z : Int32) : pr_isProved l g ad t z := by
  rcases lw_copy t z with h | ⟨j, hj, rfl, ht⟩
  · exact pr_isProved_of 1 (cw_isProved_b l hlt g ad t z (J.noc h)) (c_X5_isProved_b l hlt g ad t z h J.m60) (by decide) rfl (fun q => absurd q (by decide)) J.sl
  · have hs := J.sth ht
    have hlt2 := J.wf j ht
    exact pr_isProved_of 0 (cw_isProved_ok l hlt g ad t j hj hs J.hwf) (c_X5_isProved_ok l hlt g ad _ j hj ht J.wf J.m60) (by decide) rfl (fun _ => ⟨_, rfl, by show va_up (l_o t) 0 (k_bl (o_pv t j)) 0 = k_bl (m_pv t j); rw [va_up_self, J.pv j hlt2]⟩) J.so.sl
set_option maxRecDepth 100000 in
set_option maxHeartbeats 4000000 in
theorem pa_restore (l : Launch) (hlt : l.stackTraces = false) (g : k_g) (ad : k_AD) (t : k_T) (J : k_J t) (z y : Int32) : pr_restore l g ad t z y := by
  rcases lw_copy t z with h | ⟨j, hj, rfl, ht⟩
  · exact pr_restore_of 1 (cw_restore_b l hlt g ad t z y (J.noc h)) (c_X5_restore_b l hlt g ad t z y h J.m60) (by decide) rfl (fun q => absurd q (by decide)) J.sl
  · have hs := J.sth ht
    have hlt2 := J.wf j ht
    rcases lw_file y with h | ⟨f, hf, rfl⟩
    · exact pr_restore_of 1 (cw_restore_bf l hlt g ad t j y hj hs h) (c_X5_restore_bf l hlt g ad t j y hj ht J.wf J.m60 h) (by decide) rfl (fun q => absurd q (by decide)) J.sl
    · exact pr_restore_of 0 (cw_restore_ok l hlt g ad t j f hj hs hf J.hwf J.hbs) (c_X5_restore_ok l hlt g ad _ j f hj ht J.wf hf J.m60 J.blt J.ful) (by decide) rfl (fun _ => by show va_up (l_o t) 0 ((k_fk (o_k t) f (k_cl (o_b t) j)).toInt64) 0 = (k_fk (fun k f => (m_k t) (10 * k + f)) f (k_cl (m_b t) j)).toInt64; rw [va_up_self, J.fkk hlt2 hf]) J.so.sl
set_option maxRecDepth 100000 in
set_option maxHeartbeats 4000000 in
theorem pa_restoreByChanges (l : Launch) (hlt : l.stackTraces = false) (g : k_g) (ad : k_AD) (t : k_T) (J : k_J t) (z y : Int32) : pr_restoreByChanges l g ad t z y := by
  rcases lw_copy t z with h | ⟨j, hj, rfl, ht⟩
  · exact pr_restoreByChanges_of 1 (cw_restoreByChanges_b l hlt g ad t z y (J.noc h)) (c_X5_restoreByChanges_b l hlt g ad t z y h J.m60) (by decide) rfl (fun q => absurd q (by decide)) J.sl
  · have hs := J.sth ht
    have hlt2 := J.wf j ht
    rcases lw_file y with h | ⟨f, hf, rfl⟩
    · exact pr_restoreByChanges_of 1 (cw_restoreByChanges_bf l hlt g ad t j y hj hs h) (c_X5_restoreByChanges_bf l hlt g ad t j y hj ht J.wf J.m60 h) (by decide) rfl (fun q => absurd q (by decide)) J.sl
    · exact pr_restoreByChanges_of 0 (cw_restoreByChanges_ok l hlt g ad t j f hj hs hf J.hwf (Nat.le_trans (J.inb hlt2) J.fn4) (fun i hi => J.flf2 i (Nat.lt_of_lt_of_le hi (J.inb hlt2)))) (c_X5_restoreByChanges_ok l hlt g ad _ j f hj ht J.wf hf J.m60 J.blt J.ful) (by decide) rfl (fun _ => by show va_up (l_o t) 0 ((k_log (f_lf t) (f_lt t) (o_ca t j) f).toInt64) 0 = (k_fk (fun k f => (m_k t) (10 * k + f)) f (k_cl (m_b t) j)).toInt64; rw [va_up_self, J.ca j hlt2, J.fk j hlt2 f hf]) J.so.sl
set_option maxRecDepth 100000 in
set_option maxHeartbeats 4000000 in
theorem pa_onCall (l : Launch) (hlt : l.stackTraces = false) (g : k_g) (ad : k_AD) (t : k_T) (J : k_J t) (z : Int32) : pr_onCall l g ad t z := by
  rcases lw_upto z (M := 364) (by decide) with h | ⟨j, hj, rfl⟩
  · exact pr_onCall_of 1 (cw_onCall_b l hlt g ad t z h) (c_X5_onCall_b l hlt g ad t z h) (by decide) rfl (fun q => absurd q (by decide)) J.sl
  · exact pr_onCall_of 0 (cw_onCall_ok l hlt g ad t j hj) (c_X5_onCall_ok l hlt g ad _ j hj) (by decide) rfl (fun _ => by show va_up (l_o t) 0 ((nI (r_p t j)).toInt64) 0 = (nI (m_rt t j)).toInt64; rw [va_up_self, J.rt]) J.so.sl
set_option maxRecDepth 100000 in
set_option maxHeartbeats 4000000 in
theorem pa_swap (l : Launch) (hlt : l.stackTraces = false) (g : k_g) (ad : k_AD) (t : k_T) (J : k_J t) (z y : Int32) : pr_swap l g ad t z y := by
  rcases lw_day z J.d360 with h | ⟨j, h1, h2, rfl⟩
  · exact pr_swap_of 1 (cw_swap_b1 l hlt g ad t z y J.xd3 (by rw [J.xd]; exact h)) (c_X5_swap_b1 l hlt g ad t z y h) (by decide) rfl (fun q => absurd q (by decide)) J.sl
  · have h1' : x_d t ≤ j := by rw [J.xd]; exact h1
    rcases lw_day y J.d360 with h | ⟨k, h3, h4, rfl⟩
    · exact pr_swap_of 1 (cw_swap_b2 l hlt g ad t j y J.xd3 h1' h2 (by rw [J.xd]; exact h)) (c_X5_swap_b2 l hlt g ad t j y h1 h2 h) (by decide) rfl (fun q => absurd q (by decide)) J.sl
    · have h3' : x_d t ≤ k := by rw [J.xd]; exact h3
      by_cases hne : j = k
      · subst hne
        exact pr_swap_of 1 (cw_swap_b3 l hlt g ad t j J.xd3 h1' h2) (c_X5_swap_b3 l hlt g ad t j h1 h2) (by decide) rfl (fun q => absurd q (by decide)) J.sl
      · cases h5 : k_rest (k_ex (m_rt t) j k) j with
        | false => exact pr_swap_of 2 (cw_swap_is l hlt g ad t j k J.xd3 h1' h2 h3' h4 hne J.rpb (by rw [J.rt, h5]; rfl)) (c_X5_swap_is l hlt g ad t j k h1 h2 h3 h4 hne J.rtb (by rw [h5]; rfl)) (by decide) rfl (fun q => absurd q (by decide)) J.sl
        | true =>
          cases h6 : k_rest (k_ex (m_rt t) j k) k with
          | false => exact pr_swap_of 2 (cw_swap_is l hlt g ad t j k J.xd3 h1' h2 h3' h4 hne J.rpb (by rw [J.rt, h6]; exact Bool.and_false _)) (c_X5_swap_is l hlt g ad t j k h1 h2 h3 h4 hne J.rtb (by rw [h6]; exact Bool.and_false _)) (by decide) rfl (fun q => absurd q (by decide)) J.sl
          | true => exact pr_swap_of 0 (cw_swap_ok l hlt g ad t j k J.xd3 h1' h2 h3' h4 hne J.rpb (by rw [J.rt]; exact h5) (by rw [J.rt]; exact h6)) (c_X5_swap_ok l hlt g ad _ j k h1 h2 h3 h4 hne J.rtb h5 h6) (by decide) rfl (fun _ => by show va_up (l_o t) 0 ((nI (k_ex (r_p t) j k j)).toInt64) 0 = (nI (k_ex (m_rt t) j k j)).toInt64; rw [va_up_self, J.rt]) (J.swap (by omega) (by omega))
set_option maxRecDepth 100000 in
set_option maxHeartbeats 4000000 in
theorem pa_alarm (l : Launch) (hlt : l.stackTraces = false) (g : k_g) (ad : k_AD) (t : k_T) (J : k_J t) (z : Int32) : pr_alarm l g ad t z := by
  rcases lw_upto z (M := 31) (by decide) with h | ⟨an, han, rfl⟩
  · exact pr_alarm_of 1 (cw_alarm_b l hlt g ad t z h) (c_X5_alarm_b l hlt g ad t z h) (by decide) rfl (fun q => absurd q (by decide)) J.sl
  · exact pr_alarm_of 0 (cw_alarm_ok l hlt g ad t an han J.xd3 J.rpb) (c_X5_alarm_ok l hlt g ad _ an han J.d360 J.rtb) (by decide) rfl (fun _ => by show va_up (l_o t) 0 ((k_al (r_p t) an 4 (x_d t)).toInt64) 0 = (k_al (m_rt t) an 4 (m_d t)).toInt64; rw [va_up_self, J.rt, J.xd]) J.so.sl
set_option maxRecDepth 100000 in
set_option maxHeartbeats 4000000 in
theorem pa_day (l : Launch) (hlt : l.stackTraces = false) (g : k_g) (ad : k_AD) (t : k_T) (J : k_J t) : pr_day l g ad t := by
  refine ⟨_, c_X4_day l hlt g ad t, fun r t1 hp => ?_⟩
  obtain ⟨e1, e2⟩ := hp
  subst e1
  subst e2
  refine ⟨_, c_X5_day l hlt g ad _, fun rv w hp2 => ?_⟩
  obtain ⟨e1, e2⟩ := hp2
  subst e1
  subst e2
  exact ⟨congrArg nI J.xd, J.sl⟩
set_option maxRecDepth 100000 in
set_option maxHeartbeats 4000000 in
theorem pa_copies (l : Launch) (hlt : l.stackTraces = false) (g : k_g) (ad : k_AD) (t : k_T) (J : k_J t) : pr_copies l g ad t := by
  refine ⟨_, c_X4_copies l hlt g ad t J.hwf, fun r t1 hp => ?_⟩
  obtain ⟨e1, e2⟩ := hp
  subst e1
  subst e2
  refine ⟨_, c_X5_copies l hlt g ad _ J.m60, fun rv w hp2 => ?_⟩
  obtain ⟨e1, e2⟩ := hp2
  subst e1
  subst e2
  exact ⟨congrArg nI J.cpy, J.sl⟩
set_option maxRecDepth 100000 in
set_option maxHeartbeats 4000000 in
theorem pa_space (l : Launch) (hlt : l.stackTraces = false) (g : k_g) (ad : k_AD) (t : k_T) (J : k_J t) : pr_space l g ad t := by
  refine ⟨_, c_X4_space l hlt g ad t J.hwf, fun r t1 hp => ?_⟩
  obtain ⟨e1, e2⟩ := hp
  subst e1
  subst e2
  refine ⟨_, c_X5_space l hlt g ad _ J.m60, fun rv w hp2 => ?_⟩
  obtain ⟨e1, e2⟩ := hp2
  subst e1
  subst e2
  exact ⟨congrArg nI J.spc, J.sl⟩
theorem k_J.hnd {t : k_T} (J : k_J t) : ∀ k, m_th t k = true → (k_Nm (s_th t) (o_nd t) (k_Pm (s_th t) (o_pm t) (o_on t) (s_r1 t) (s_r2 t) (s_r3 t)) (o_b t)) k = (k_NmM (m_md t) (m_nd t) (k_PmM (m_md t) (m_th t) (m_pm t) (m_on t) (m_r1 t) (m_r2 t) (m_r3 t)) (m_b t)) k := fun k hk => J.ndj hk
theorem k_J.thn {t : k_T} (J : k_J t) : k_sm (fun k => (s_th t) k && !(k_Hd (s_th t) (k_Nm (s_th t) (o_nd t) (k_Pm (s_th t) (o_pm t) (o_on t) (s_r1 t) (s_r2 t) (s_r3 t)) (o_b t)) (o_b t) (o_on t) (o_hd t) (k_lp (fun k => (s_th t) k && (o_pv t) k) (o_on t) 60)) k) (fun k => (o_kc t) k + 1) 60 = k_sm (k_LS (m_md t) (m_th t) (k_NmM (m_md t) (m_nd t) (k_PmM (m_md t) (m_th t) (m_pm t) (m_on t) (m_r1 t) (m_r2 t) (m_r3 t)) (m_b t)) (m_b t) (m_on t) (m_ls t) (k_lp (fun k => (m_th t) k && (m_pv t) k) (m_on t) (m_md t))) (fun k => (m_sz t) k + 1) (m_md t) := by
  rw [← J.lp]; exact J.cnt2 J.hnd
theorem k_J.thn2 {t : k_T} (J : k_J t) : (fun j => (s_th t) j && (k_Hd (s_th t) (k_Nm (s_th t) (o_nd t) (k_Pm (s_th t) (o_pm t) (o_on t) (s_r1 t) (s_r2 t) (s_r3 t)) (o_b t)) (o_b t) (o_on t) (o_hd t) (k_lp (fun k => (s_th t) k && (o_pv t) k) (o_on t) 60)) j) = (fun j => (m_th t) j && !((k_LS (m_md t) (m_th t) (k_NmM (m_md t) (m_nd t) (k_PmM (m_md t) (m_th t) (m_pm t) (m_on t) (m_r1 t) (m_r2 t) (m_r3 t)) (m_b t)) (m_b t) (m_on t) (m_ls t) (k_lp (fun k => (m_th t) k && (m_pv t) k) (m_on t) (m_md t))) j)) := by
  rw [← J.lp]; exact J.th2 J.hnd
set_option maxRecDepth 100000 in
set_option maxHeartbeats 4000000 in
theorem pa_thin (l : Launch) (hlt : l.stackTraces = false) (g : k_g) (ad : k_AD) (t : k_T) (J : k_J t) : pr_thin l g ad t := by
  refine ⟨_, c_X4_thin l hlt g ad t J.hwf J.hbs J.hth J.hn60 J.hon J.s1 J.s2 J.s3, fun r t1 hp => ?_⟩
  obtain ⟨e1, e2⟩ := hp
  subst e1
  subst e2
  refine ⟨_, c_X5_thin l hlt g ad _ J.wf J.m60 J.blt J.onb J.r1b J.r2b J.r3b, fun rv w hp2 => ?_⟩
  obtain ⟨e1, e2⟩ := hp2
  subst e1
  subst e2
  exact ⟨congrArg nI J.thn, J.thin J.thn2 (fun j h => ((Bool.and_eq_true _ _).mp h).1) J.bth2⟩
