/-- a copy is made, of all files or of those changed since its base -/
theorem k_J.made {t : k_T} (J : k_J t) {o : Nat → Int64} {bo : Option Nat} {ks : Nat → Int32} {p : Nat → Bool} (hm : m_md t < 60) (hbo : ∀ b, bo = some b → m_th t b = true) (hks : ∀ f, f < 10 → ks f = if p f = true then m_c t f else -1) (hct : k_cnt ks = k_cb p 10) (hful : bo = none → ∀ f, f < 10 → p f = true) (hfk : ∀ f, f < 10 → (if (if p f = true then m_c t f else -1) = -1 then k_fk (fun k f => m_k t (10 * k + f)) f (k_clo (m_b t) bo) else (if p f = true then m_c t f else -1)) = m_c t f) : k_J (set_m_md (set_m_th (set_m_sz (set_m_k (set_m_at (set_m_b (set_m_on (set_m_l (set_l_o (set_s_md (set_s_th (set_o_k (set_o_kc (set_o_n (set_o_hd (set_o_nd (set_o_pm (set_o_pv (set_o_dm (set_o_ca (set_o_b (set_o_on t (va_up (o_on t) (s_md t) (x_d t))) (va_up (o_b t) (s_md t) bo)) (va_up (o_ca t) (s_md t) (f_n t))) (va_up (o_dm t) (s_md t) false)) (va_up (o_pv t) (s_md t) false)) (va_up (o_pm t) (s_md t) false)) (va_up (o_nd t) (s_md t) false)) (va_up (o_hd t) (s_md t) false)) (s_md t + 1)) (va_up (o_kc t) (s_md t) (k_cnt ks))) (va_up (o_k t) (s_md t) ks)) (va_up (s_th t) (s_md t) true)) (s_md t + 1)) o) 0) (va_up (m_on t) (m_md t) (m_d t))) (va_up (m_b t) (m_md t) bo)) (va_up (m_at t) (m_md t) (m_n t))) (k_KN (m_md t) p (m_c t) (m_k t) 10)) (va_up (m_sz t) (m_md t) (k_cb p 10))) (va_up (m_th t) (m_md t) true)) (m_md t + 1)) := ⟨J.fc, J.fn, J.fn3, J.fne, J.flf, J.fcl, J.ch, J.chd, J.xd, J.d360, (by show va_up (s_th t) (s_md t) true = va_up (m_th t) (m_md t) true; rw [J.md, J.th]), (by show s_md t + 1 = m_md t + 1; rw [J.md]), (by show s_md t + 1 = m_md t + 1; rw [J.md]), (hm), (by
    intro j hj
    show j < m_md t + 1
    by_cases h : j = m_md t
    · omega
    · have h2 : va_up (m_th t) (m_md t) true j = true := hj
      rw [va_up_ne _ _ h] at h2
      have := J.wf j h2; omega), J.r1, J.r2, J.r3, J.r1b, J.r2b, J.r3b, J.rt, J.rtb, (by
    intro k hk
    show va_up (o_on t) (s_md t) (x_d t) k = va_up (m_on t) (m_md t) (m_d t) k
    rw [J.md]; exact k_mu J.on J.xd k hk), (k_mp (P := fun _ v => v ≤ 360) J.onb J.d360), (by
    intro k hk
    show va_up (o_b t) (s_md t) bo k = va_up (m_b t) (m_md t) bo k
    rw [J.md]; exact k_mu J.b rfl k hk), (by
    intro k b hk hb
    exact k_mp (P := fun k v => ∀ b, v = some b → b < k) (fun k hk b h => J.blt k b hk h) (fun b h => J.wf b (hbo b h)) k hk b hb), (by
    intro k b hk hb
    show va_up (m_th t) (m_md t) true b = true
    have hk2 : va_up (m_th t) (m_md t) true k = true := hk
    have hb2 : va_up (m_b t) (m_md t) bo k = some b := hb
    by_cases h2 : b = m_md t
    · rw [h2, va_up_self]
    · rw [va_up_ne _ _ h2]
      by_cases h : k = m_md t
      · rw [h, va_up_self] at hb2; exact hbo b hb2
      · rw [va_up_ne _ _ h] at hk2 hb2; exact J.bth k b hk2 hb2), (by
    intro k hk
    show va_up (o_ca t) (s_md t) (f_n t) k = va_up (m_at t) (m_md t) (m_n t) k
    rw [J.md]; exact k_mu J.ca J.fn k hk), (k_mp (P := fun _ v => v ≤ m_n t) J.cab (Nat.le_refl _)), (by
    intro k hk f hf
    show va_up (o_k t) (s_md t) ks k f = k_KN (m_md t) p (m_c t) (m_k t) 10 (10 * k + f)
    rw [J.md]
    by_cases h : k = m_md t
    · rw [h, va_up_self, k_KN_at hf]; exact hks f hf
    · have hlt : k < m_md t := by have : k < m_md t + 1 := hk; omega
      rw [va_up_ne _ _ h, k_KN_lt hlt hf]; exact J.kk k hlt f hf), (by
    intro k hk
    show va_up (o_kc t) (s_md t) (k_cnt ks) k = va_up (m_sz t) (m_md t) (k_cb p 10) k
    rw [J.md]; exact k_mu J.kc hct k hk), (by
    intro k hk
    show va_up (o_dm t) (s_md t) false k = m_dm t k
    rw [J.md]
    by_cases h : k = m_md t
    · rw [h, va_up_self, J.dm0 _ (Nat.le_refl _)]
    · rw [va_up_ne _ _ h]; exact J.dm k (by have : k < m_md t + 1 := hk; omega)), (by
    intro k hk
    show va_up (o_pv t) (s_md t) false k = m_pv t k
    rw [J.md]
    by_cases h : k = m_md t
    · rw [h, va_up_self, J.pv0 _ (Nat.le_refl _)]
    · rw [va_up_ne _ _ h]; exact J.pv k (by have : k < m_md t + 1 := hk; omega)), (by
    intro k hk hb f hf
    show ¬ k_KN (m_md t) p (m_c t) (m_k t) 10 (10 * k + f) = -1
    have hb2 : va_up (m_b t) (m_md t) bo k = none := hb
    by_cases h : k = m_md t
    · rw [h, va_up_self] at hb2
      rw [h, k_KN_at hf, if_pos (hful hb2 f hf)]; exact J.fne f hf
    · have hlt : k < m_md t := by have : k < m_md t + 1 := hk; omega
      rw [va_up_ne _ _ h] at hb2
      rw [k_KN_lt hlt hf]; exact J.ful k hlt hb2 f hf), (by
    intro k hk f hf
    show k_fk (fun k f => k_KN (m_md t) p (m_c t) (m_k t) 10 (10 * k + f)) f (k_cl (va_up (m_b t) (m_md t) bo) k) = k_log (f_lf t) (f_lt t) (va_up (m_at t) (m_md t) (m_n t) k) f
    by_cases h : k = m_md t
    · rw [h, k_fk_new (fun b hb => J.wf b (hbo b hb)) hf, va_up_self, ← J.fcl f hf]; exact hfk f hf
    · have hlt : k < m_md t := by have : k < m_md t + 1 := hk; omega
      rw [k_fk_old hlt hf, va_up_ne _ _ h]; exact J.fk k hlt f hf), (by
    intro k hk
    have hk2 : m_md t + 1 ≤ k := hk
    show va_up (m_sz t) (m_md t) (k_cb p 10) k = 0
    rw [va_up_ne _ _ (by omega)]; exact J.sz0 k (by omega)), (fun k hk => J.dm0 k (by have : m_md t + 1 ≤ k := hk; omega)), (fun k hk => J.pv0 k (by have : m_md t + 1 ≤ k := hk; omega))⟩
