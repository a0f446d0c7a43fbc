/-- the vault and the model say the same -/
def k_J (t : k_T) : Prop := (f_c t = m_c t) ∧ (f_n t = m_n t) ∧ (m_n t ≤ 300) ∧ (∀ j, j < 10 → m_c t j ≠ -1) ∧ (∀ i, i < m_n t → f_lf t i < 10) ∧ (∀ j, j < 10 → m_c t j = k_log (f_lf t) (f_lt t) (m_n t) j) ∧ (∀ j, j < 10 → m_ch t j ≤ m_n t) ∧ (∀ a j, a ≤ m_n t → j < 10 → k_chd (f_lf t) a (m_n t) j = decide (a < m_ch t j)) ∧ (x_d t = m_d t) ∧ (m_d t ≤ 360) ∧ (s_th t = m_th t) ∧ (s_md t = m_md t) ∧ (o_n t = m_md t) ∧ (m_md t ≤ 60) ∧ (∀ j, m_th t j = true → j < m_md t) ∧ (s_r1 t = m_r1 t) ∧ (s_r2 t = m_r2 t) ∧ (s_r3 t = m_r3 t) ∧ (m_r1 t ≤ 30) ∧ (m_r2 t ≤ 30) ∧ (m_r3 t ≤ 30) ∧ (r_p t = m_rt t) ∧ (∀ i, i < 365 → m_rt t i < 5) ∧ (∀ k, k < m_md t → o_on t k = m_on t k) ∧ (∀ k, k < m_md t → m_on t k ≤ 360) ∧ (∀ k, k < m_md t → o_b t k = m_b t k) ∧ (∀ k b, k < m_md t → m_b t k = some b → b < k) ∧ (∀ k b, m_th t k = true → m_b t k = some b → m_th t b = true) ∧ (∀ k, k < m_md t → o_ca t k = m_at t k) ∧ (∀ k, k < m_md t → m_at t k ≤ m_n t) ∧ (∀ k, k < m_md t → ∀ f, f < 10 → o_k t k f = m_k t (10 * k + f)) ∧ (∀ k, k < m_md t → o_kc t k = m_sz t k) ∧ (∀ k, k < m_md t → o_dm t k = m_dm t k) ∧ (∀ k, k < m_md t → o_pv t k = m_pv t k) ∧ (∀ k, k < m_md t → m_b t k = none → ∀ f, f < 10 → ¬ m_k t (10 * k + f) = -1) ∧ (∀ k, k < m_md t → ∀ f, f < 10 → k_fk (fun k f => m_k t (10 * k + f)) f (k_cl (m_b t) k) = k_log (f_lf t) (f_lt t) (m_at t k) f) ∧ (∀ k, m_md t ≤ k → m_sz t k = 0) ∧ (∀ k, m_md t ≤ k → m_dm t k = false) ∧ (∀ k, m_md t ≤ k → m_pv t k = false)
theorem k_J.fc {t : k_T} (J : k_J t) : f_c t = m_c t := J.1
theorem k_J.fn {t : k_T} (J : k_J t) : f_n t = m_n t := J.2.1
theorem k_J.fn3 {t : k_T} (J : k_J t) : m_n t ≤ 300 := J.2.2.1
theorem k_J.fne {t : k_T} (J : k_J t) : ∀ j, j < 10 → m_c t j ≠ -1 := J.2.2.2.1
theorem k_J.flf {t : k_T} (J : k_J t) : ∀ i, i < m_n t → f_lf t i < 10 := J.2.2.2.2.1
theorem k_J.fcl {t : k_T} (J : k_J t) : ∀ j, j < 10 → m_c t j = k_log (f_lf t) (f_lt t) (m_n t) j := J.2.2.2.2.2.1
theorem k_J.ch {t : k_T} (J : k_J t) : ∀ j, j < 10 → m_ch t j ≤ m_n t := J.2.2.2.2.2.2.1
theorem k_J.chd {t : k_T} (J : k_J t) : ∀ a j, a ≤ m_n t → j < 10 → k_chd (f_lf t) a (m_n t) j = decide (a < m_ch t j) := J.2.2.2.2.2.2.2.1
theorem k_J.xd {t : k_T} (J : k_J t) : x_d t = m_d t := J.2.2.2.2.2.2.2.2.1
theorem k_J.d360 {t : k_T} (J : k_J t) : m_d t ≤ 360 := J.2.2.2.2.2.2.2.2.2.1
theorem k_J.th {t : k_T} (J : k_J t) : s_th t = m_th t := J.2.2.2.2.2.2.2.2.2.2.1
theorem k_J.md {t : k_T} (J : k_J t) : s_md t = m_md t := J.2.2.2.2.2.2.2.2.2.2.2.1
theorem k_J.onn {t : k_T} (J : k_J t) : o_n t = m_md t := J.2.2.2.2.2.2.2.2.2.2.2.2.1
theorem k_J.m60 {t : k_T} (J : k_J t) : m_md t ≤ 60 := J.2.2.2.2.2.2.2.2.2.2.2.2.2.1
theorem k_J.wf {t : k_T} (J : k_J t) : ∀ j, m_th t j = true → j < m_md t := J.2.2.2.2.2.2.2.2.2.2.2.2.2.2.1
theorem k_J.r1 {t : k_T} (J : k_J t) : s_r1 t = m_r1 t := J.2.2.2.2.2.2.2.2.2.2.2.2.2.2.2.1
theorem k_J.r2 {t : k_T} (J : k_J t) : s_r2 t = m_r2 t := J.2.2.2.2.2.2.2.2.2.2.2.2.2.2.2.2.1
theorem k_J.r3 {t : k_T} (J : k_J t) : s_r3 t = m_r3 t := J.2.2.2.2.2.2.2.2.2.2.2.2.2.2.2.2.2.1
theorem k_J.r1b {t : k_T} (J : k_J t) : m_r1 t ≤ 30 := J.2.2.2.2.2.2.2.2.2.2.2.2.2.2.2.2.2.2.1
theorem k_J.r2b {t : k_T} (J : k_J t) : m_r2 t ≤ 30 := J.2.2.2.2.2.2.2.2.2.2.2.2.2.2.2.2.2.2.2.1
theorem k_J.r3b {t : k_T} (J : k_J t) : m_r3 t ≤ 30 := J.2.2.2.2.2.2.2.2.2.2.2.2.2.2.2.2.2.2.2.2.1
theorem k_J.rt {t : k_T} (J : k_J t) : r_p t = m_rt t := J.2.2.2.2.2.2.2.2.2.2.2.2.2.2.2.2.2.2.2.2.2.1
theorem k_J.rtb {t : k_T} (J : k_J t) : ∀ i, i < 365 → m_rt t i < 5 := J.2.2.2.2.2.2.2.2.2.2.2.2.2.2.2.2.2.2.2.2.2.2.1
theorem k_J.on {t : k_T} (J : k_J t) : ∀ k, k < m_md t → o_on t k = m_on t k := J.2.2.2.2.2.2.2.2.2.2.2.2.2.2.2.2.2.2.2.2.2.2.2.1
theorem k_J.onb {t : k_T} (J : k_J t) : ∀ k, k < m_md t → m_on t k ≤ 360 := J.2.2.2.2.2.2.2.2.2.2.2.2.2.2.2.2.2.2.2.2.2.2.2.2.1
theorem k_J.b {t : k_T} (J : k_J t) : ∀ k, k < m_md t → o_b t k = m_b t k := J.2.2.2.2.2.2.2.2.2.2.2.2.2.2.2.2.2.2.2.2.2.2.2.2.2.1
theorem k_J.blt {t : k_T} (J : k_J t) : ∀ k b, k < m_md t → m_b t k = some b → b < k := J.2.2.2.2.2.2.2.2.2.2.2.2.2.2.2.2.2.2.2.2.2.2.2.2.2.2.1
theorem k_J.bth {t : k_T} (J : k_J t) : ∀ k b, m_th t k = true → m_b t k = some b → m_th t b = true := J.2.2.2.2.2.2.2.2.2.2.2.2.2.2.2.2.2.2.2.2.2.2.2.2.2.2.2.1
theorem k_J.ca {t : k_T} (J : k_J t) : ∀ k, k < m_md t → o_ca t k = m_at t k := J.2.2.2.2.2.2.2.2.2.2.2.2.2.2.2.2.2.2.2.2.2.2.2.2.2.2.2.2.1
theorem k_J.cab {t : k_T} (J : k_J t) : ∀ k, k < m_md t → m_at t k ≤ m_n t := J.2.2.2.2.2.2.2.2.2.2.2.2.2.2.2.2.2.2.2.2.2.2.2.2.2.2.2.2.2.1
theorem k_J.kk {t : k_T} (J : k_J t) : ∀ k, k < m_md t → ∀ f, f < 10 → o_k t k f = m_k t (10 * k + f) := J.2.2.2.2.2.2.2.2.2.2.2.2.2.2.2.2.2.2.2.2.2.2.2.2.2.2.2.2.2.2.1
theorem k_J.kc {t : k_T} (J : k_J t) : ∀ k, k < m_md t → o_kc t k = m_sz t k := J.2.2.2.2.2.2.2.2.2.2.2.2.2.2.2.2.2.2.2.2.2.2.2.2.2.2.2.2.2.2.2.1
theorem k_J.dm {t : k_T} (J : k_J t) : ∀ k, k < m_md t → o_dm t k = m_dm t k := J.2.2.2.2.2.2.2.2.2.2.2.2.2.2.2.2.2.2.2.2.2.2.2.2.2.2.2.2.2.2.2.2.1
theorem k_J.pv {t : k_T} (J : k_J t) : ∀ k, k < m_md t → o_pv t k = m_pv t k := J.2.2.2.2.2.2.2.2.2.2.2.2.2.2.2.2.2.2.2.2.2.2.2.2.2.2.2.2.2.2.2.2.2.1
theorem k_J.ful {t : k_T} (J : k_J t) : ∀ k, k < m_md t → m_b t k = none → ∀ f, f < 10 → ¬ m_k t (10 * k + f) = -1 := J.2.2.2.2.2.2.2.2.2.2.2.2.2.2.2.2.2.2.2.2.2.2.2.2.2.2.2.2.2.2.2.2.2.2.1
theorem k_J.fk {t : k_T} (J : k_J t) : ∀ k, k < m_md t → ∀ f, f < 10 → k_fk (fun k f => m_k t (10 * k + f)) f (k_cl (m_b t) k) = k_log (f_lf t) (f_lt t) (m_at t k) f := J.2.2.2.2.2.2.2.2.2.2.2.2.2.2.2.2.2.2.2.2.2.2.2.2.2.2.2.2.2.2.2.2.2.2.2.1
theorem k_J.sz0 {t : k_T} (J : k_J t) : ∀ k, m_md t ≤ k → m_sz t k = 0 := J.2.2.2.2.2.2.2.2.2.2.2.2.2.2.2.2.2.2.2.2.2.2.2.2.2.2.2.2.2.2.2.2.2.2.2.2.1
theorem k_J.dm0 {t : k_T} (J : k_J t) : ∀ k, m_md t ≤ k → m_dm t k = false := J.2.2.2.2.2.2.2.2.2.2.2.2.2.2.2.2.2.2.2.2.2.2.2.2.2.2.2.2.2.2.2.2.2.2.2.2.2.1
theorem k_J.pv0 {t : k_T} (J : k_J t) : ∀ k, m_md t ≤ k → m_pv t k = false := J.2.2.2.2.2.2.2.2.2.2.2.2.2.2.2.2.2.2.2.2.2.2.2.2.2.2.2.2.2.2.2.2.2.2.2.2.2.2
theorem k_J.hwf {t : k_T} (J : k_J t) : ∀ j, s_th t j = true → j < o_n t := fun j h => by rw [J.onn]; exact J.wf j (J.th ▸ h)
theorem k_J.hbs {t : k_T} (J : k_J t) : ∀ k b, k < o_n t → o_b t k = some b → b < o_n t ∧ b < k := fun k b h1 h2 => by
  rw [J.onn] at h1
  have h3 := J.blt k b h1 ((J.b k h1).symm.trans h2)
  rw [J.onn]
  exact ⟨by omega, h3⟩
theorem k_J.hth {t : k_T} (J : k_J t) : ∀ j b, s_th t j = true → o_b t j = some b → s_th t b = true := fun j b h1 h2 => by
  rw [J.th] at h1 ⊢
  exact J.bth j b h1 ((J.b j (J.wf j h1)).symm.trans h2)
theorem k_J.hn60 {t : k_T} (J : k_J t) : o_n t ≤ 60 := by rw [J.onn]; exact J.m60
theorem k_J.hon {t : k_T} (J : k_J t) : ∀ j, j < o_n t → o_on t j ≤ 360 := fun j h => by rw [J.onn] at h; rw [J.on j h]; exact J.onb j h
/-- which copies are promised -/
theorem k_J.pm {t : k_T} (J : k_J t) {r1 r2 r3 : Nat} : ∀ k, k < m_md t → (s_th t k && k_Pm (s_th t) (o_pm t) (o_on t) r1 r2 r3 k) = k_PmM (m_md t) (m_th t) (m_pm t) (m_on t) r1 r2 r3 k := by
  intro k hk
  have e := k_P_eq (r1 := r1) (r2 := r2) (r3 := r3) J.wf J.m60 J.on
  simp only [k_Pm, k_PmM, J.th, e, decide_eq_true hk]
  cases h : m_th t k with
  | true => simp
  | false =>
    cases h2 : k_P (m_th t) (m_on t) (m_md t) r1 r2 r3 k with
    | false => simp
    | true => have := (k_P_th h2).1; rw [h] at this; cases this
theorem k_J.thf {t : k_T} (J : k_J t) {k : Nat} (h : m_md t ≤ k) : s_th t k = false := by
  rw [J.th]
  cases h2 : m_th t k with
  | false => rfl
  | true => have := J.wf k h2; omega
theorem k_J.cntP {t : k_T} (J : k_J t) {r1 r2 r3 : Nat} : k_cb (fun k => s_th t k && k_Pm (s_th t) (o_pm t) (o_on t) r1 r2 r3 k) 60 = k_cb (k_PmM (m_md t) (m_th t) (m_pm t) (m_on t) r1 r2 r3) (m_md t) :=
  k_cb_ext 60 J.m60 (fun k hk => J.pm k hk) (fun k hk => by simp only [J.thf hk, Bool.false_and])
/-- which are needed -/
theorem k_J.nd {t : k_T} (J : k_J t) {r1 r2 r3 : Nat} : ∀ k, m_th t k = true → k_Nm (s_th t) (o_nd t) (k_Pm (s_th t) (o_pm t) (o_on t) r1 r2 r3) (o_b t) k = k_NmM (m_md t) (m_nd t) (k_PmM (m_md t) (m_th t) (m_pm t) (m_on t) r1 r2 r3) (m_b t) k := by
  intro k hk
  have hlt := J.wf k hk
  have hk' : s_th t k = true := by rw [J.th]; exact hk
  simp only [k_Nm, k_N0, k_NmM, decide_eq_true hlt, if_pos hk', if_true]
  rw [k_nd_60 (M := m_md t) (fun j h => J.wf j (J.th ▸ h)) 60 J.m60, k_nd_ext (M := m_md t) J.b (fun k hk => J.pm k hk) _ (Nat.le_refl _)]
theorem k_J.lp {t : k_T} (J : k_J t) : k_lp (fun k => s_th t k && o_pv t k) (o_on t) 60 = k_lp (fun k => m_th t k && m_pv t k) (m_on t) (m_md t) :=
  k_lp_ext 60 J.m60 (fun k hk => by simp only [J.th, J.pv k hk]) J.on (fun k hk => by simp only [J.thf hk, Bool.false_and])
/-- which are held, which are loose -/
theorem k_J.ls {t : k_T} (J : k_J t) {r1 r2 r3 : Nat} {z : Int32} {od nd' : Nat → Bool} (hnd : ∀ k, m_th t k = true → od k = nd' k) : ∀ k, m_th t k = true → k_Hd (s_th t) od (o_b t) (o_on t) (o_hd t) z k = !(k_LS (m_md t) (m_th t) nd' (m_b t) (m_on t) (m_ls t) z k) := by
  intro k hk
  simp only [k_Hd, k_LS, Bool.not_not]
  rw [k_hl_60 (M := m_md t) (fun j h => J.wf j (J.th ▸ h)) 60 J.m60, J.th]
  refine k_hl_ext _ J.b _ _ (fun j hj => ?_) k hk
  have hlt := J.wf j hj
  simp only [k_H0, k_L0, if_pos hj, decide_eq_true hlt, if_true, hj, Bool.true_and, J.on j hlt, hnd j hj]
  cases nd' j with
  | true => rfl
  | false =>
    by_cases h : nI (m_on t j) < z
    · rw [decide_eq_true h, decide_eq_false (Int32.not_le.mpr h)]; rfl
    · rw [decide_eq_false h, decide_eq_true (Int32.not_lt.mp h)]; rfl
theorem k_J.cl {t : k_T} (J : k_J t) {k : Nat} (h : k < m_md t) : k_cl (o_b t) k = k_cl (m_b t) k := k_cl_ext J.b k h
theorem k_J.any {t : k_T} (J : k_J t) {k : Nat} (h : k < m_md t) : (k_cl (o_b t) k).any (o_dm t) = (k_cl (m_b t) k).any (m_dm t) := by
  rw [J.cl h]
  have : ∀ l : List Nat, (∀ j ∈ l, j < m_md t) → l.any (o_dm t) = l.any (m_dm t) := by
    intro l
    induction l with
    | nil => intro _; rfl
    | cons a l ih => intro h; rw [List.any_cons, List.any_cons, ih (fun j hj => h j (List.mem_cons_of_mem _ hj)), J.dm a (h a List.mem_cons_self)]
  exact this _ (fun j hj => by have := k_cl_le k j hj; omega)
theorem k_J.fkk {t : k_T} (J : k_J t) {k f : Nat} (h : k < m_md t) (hf : f < 10) : k_fk (o_k t) f (k_cl (o_b t) k) = k_fk (fun k f => m_k t (10 * k + f)) f (k_cl (m_b t) k) := by
  rw [J.cl h]
  have : ∀ l : List Nat, (∀ j ∈ l, j < m_md t) → k_fk (o_k t) f l = k_fk (fun k f => m_k t (10 * k + f)) f l := by
    intro l
    induction l with
    | nil => intro _; rfl
    | cons a l ih => intro h; simp only [k_fk, ih (fun j hj => h j (List.mem_cons_of_mem _ hj)), J.kk a (h a List.mem_cons_self) f hf]
  exact this _ (fun j hj => by have := k_cl_le k j hj; omega)
