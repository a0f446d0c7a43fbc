theorem k_cn_cb {K : Nat → Int32} {p : Nat → Bool} : ∀ n, (∀ j, j < n → (p j = true ↔ ¬ K j = -1)) → k_cn K n = k_cb p n := by
  intro n
  induction n with
  | zero => intro _; rfl
  | succ n ih =>
    intro h
    have h1 := ih (fun j hj => h j (by omega))
    have h2 := h n (by omega)
    by_cases hk : K n = -1
    · have h3 : p n = false := by
        cases hp : p n with
        | false => rfl
        | true => exact absurd hk (h2.mp hp)
      simp [k_cn, k_cb, hk, h3, h1]
    · simp [k_cn, k_cb, hk, h2.mpr hk, h1]
theorem k_K0_lt {f : Nat} (h : f < 10) : k_K0 f = -1 := if_pos h
theorem k_J.full_ks {t : k_T} (J : k_J t) : ∀ f, f < 10 → (fun j => if j < 10 then (f_c t) j else k_K0 j) f = if (fun _ => true) f = true then m_c t f else -1 := by
  intro f hf
  show (if f < 10 then f_c t f else k_K0 f) = _
  rw [if_pos hf, J.fc]; rfl
theorem k_J.full_ct {t : k_T} (J : k_J t) : k_cnt (fun j => if j < 10 then (f_c t) j else k_K0 j) = k_cb (fun _ => true) 10 := k_cn_cb 10 (fun j hj => ⟨fun _ => by show ¬ (if j < 10 then f_c t j else k_K0 j) = -1; rw [if_pos hj, J.fc]; exact J.fne j hj, fun _ => rfl⟩)
theorem k_J.full_fk {t : k_T} (J : k_J t) : ∀ f, f < 10 → (if (if (fun _ => true) f = true then m_c t f else -1) = -1 then k_fk (fun k f => m_k t (10 * k + f)) f (k_clo (m_b t) none) else (if (fun _ => true) f = true then m_c t f else -1)) = m_c t f := by
  intro f hf
  show (if m_c t f = -1 then _ else m_c t f) = m_c t f
  rw [if_neg (J.fne f hf)]
theorem k_J.inc_ch {t : k_T} (J : k_J t) {b0 f : Nat} (hb : b0 < m_md t) (hf : f < 10) : k_chd (f_lf t) (o_ca t b0) (f_n t) f = decide (m_at t b0 < m_ch t f) := by
  rw [J.ca b0 hb, J.fn]; exact J.chd _ f (J.cab b0 hb) hf
theorem k_J.inc_ks {t : k_T} (J : k_J t) {b0 : Nat} (hb : b0 < m_md t) : ∀ f, f < 10 → (fun j => if k_chd (f_lf t) (o_ca t b0) (f_n t) j = true then (f_c t) j else k_K0 j) f = if (fun f => decide ((m_at t) b0 < (m_ch t) f)) f = true then m_c t f else -1 := by
  intro f hf
  show (if k_chd (f_lf t) (o_ca t b0) (f_n t) f = true then f_c t f else k_K0 f) = if decide (m_at t b0 < m_ch t f) = true then m_c t f else -1
  rw [J.inc_ch hb hf, J.fc, k_K0_lt hf]
theorem k_J.inc_ct {t : k_T} (J : k_J t) {b0 : Nat} (hb : b0 < m_md t) : k_cnt (fun j => if k_chd (f_lf t) (o_ca t b0) (f_n t) j = true then (f_c t) j else k_K0 j) = k_cb (fun f => decide ((m_at t) b0 < (m_ch t) f)) 10 := k_cn_cb 10 (fun j hj => by
  rw [show (if k_chd (f_lf t) (o_ca t b0) (f_n t) j = true then f_c t j else k_K0 j) = _ from J.inc_ks hb j hj]
  show decide (m_at t b0 < m_ch t j) = true ↔ ¬ (if decide (m_at t b0 < m_ch t j) = true then m_c t j else -1) = -1
  by_cases h : decide (m_at t b0 < m_ch t j) = true
  · rw [if_pos h]; exact ⟨fun _ => J.fne j hj, fun _ => h⟩
  · rw [if_neg h]; exact ⟨fun q => absurd q h, fun q => absurd rfl q⟩)
theorem k_J.inc_fk {t : k_T} (J : k_J t) {b0 : Nat} (hb : b0 < m_md t) : ∀ f, f < 10 → (if (if (fun f => decide ((m_at t) b0 < (m_ch t) f)) f = true then m_c t f else -1) = -1 then k_fk (fun k f => m_k t (10 * k + f)) f (k_clo (m_b t) (some b0)) else (if (fun f => decide ((m_at t) b0 < (m_ch t) f)) f = true then m_c t f else -1)) = m_c t f := by
  intro f hf
  show (if (if decide (m_at t b0 < m_ch t f) = true then m_c t f else -1) = -1 then k_fk (fun k f => m_k t (10 * k + f)) f (k_cl (m_b t) b0) else (if decide (m_at t b0 < m_ch t f) = true then m_c t f else -1)) = m_c t f
  by_cases h : decide (m_at t b0 < m_ch t f) = true
  · rw [if_pos h, if_neg (J.fne f hf)]
  · rw [if_neg h, if_pos rfl, J.fk b0 hb f hf, J.fcl f hf]
    refine (k_log_old _ (J.cab b0 hb) f ?_).symm
    rw [J.chd _ f (J.cab b0 hb) hf]
    cases h2 : decide (m_at t b0 < m_ch t f) with
    | false => rfl
    | true => exact absurd h2 h
