/-- neither the code nor the answer's place is in the relation -/
theorem k_J.sl {t : k_T} (J : k_J t) {n : Nat} : k_J (set_m_l t n) := ⟨J.fc, J.fn, J.fn3, J.fne, J.flf, J.fcl, J.ch, J.chd, J.xd, J.d360, J.th, J.md, J.onn, J.m60, J.wf, J.r1, J.r2, J.r3, J.r1b, J.r2b, J.r3b, J.rt, J.rtb, J.on, J.onb, J.b, J.blt, J.bth, J.ca, J.cab, J.kk, J.kc, J.dm, J.pv, J.ful, J.fk, J.sz0, J.dm0, J.pv0⟩
theorem k_J.so {t : k_T} (J : k_J t) {o : Nat → Int64} : k_J (set_l_o t o) := ⟨J.fc, J.fn, J.fn3, J.fne, J.flf, J.fcl, J.ch, J.chd, J.xd, J.d360, J.th, J.md, J.onn, J.m60, J.wf, J.r1, J.r2, J.r3, J.r1b, J.r2b, J.r3b, J.rt, J.rtb, J.on, J.onb, J.b, J.blt, J.bth, J.ca, J.cab, J.kk, J.kc, J.dm, J.pv, J.ful, J.fk, J.sz0, J.dm0, J.pv0⟩
theorem k_J.pass {t : k_T} (J : k_J t) {w : Nat} (h : m_d t + w ≤ 360) : k_J (set_m_d (set_x_d t (x_d t + w)) (m_d t + w)) := ⟨J.fc, J.fn, J.fn3, J.fne, J.flf, J.fcl, J.ch, J.chd, (by show x_d t + w = m_d t + w; rw [J.xd]), (h), J.th, J.md, J.onn, J.m60, J.wf, J.r1, J.r2, J.r3, J.r1b, J.r2b, J.r3b, J.rt, J.rtb, J.on, J.onb, J.b, J.blt, J.bth, J.ca, J.cab, J.kk, J.kc, J.dm, J.pv, J.ful, J.fk, J.sz0, J.dm0, J.pv0⟩
theorem k_J.rules {t : k_T} (J : k_J t) {ra rb rc : Nat} (h1 : ra ≤ 30) (h2 : rb ≤ 20) (h3 : rc ≤ 12) : k_J (set_m_r3 (set_m_r2 (set_m_r1 (set_s_r3 (set_s_r2 (set_s_r1 t ra) rb) rc) ra) rb) rc) := ⟨J.fc, J.fn, J.fn3, J.fne, J.flf, J.fcl, J.ch, J.chd, J.xd, J.d360, J.th, J.md, J.onn, J.m60, J.wf, (rfl), (rfl), (rfl), (h1), (Nat.le_trans h2 (by decide)), (Nat.le_trans h3 (by decide)), J.rt, J.rtb, J.on, J.onb, J.b, J.blt, J.bth, J.ca, J.cab, J.kk, J.kc, J.dm, J.pv, J.ful, J.fk, J.sz0, J.dm0, J.pv0⟩
theorem k_J.change {t : k_T} (J : k_J t) {j : Nat} {v : Int32} {o : Nat → Int64} (hj : j < 10) (hv : v ≠ -1) (h : m_n t < 300) : k_J (set_m_ch (set_m_n (set_m_c (set_m_l (set_l_o (set_f_n (set_f_lt (set_f_lf (set_f_c t (va_up (f_c t) j v)) (va_up (f_lf t) (f_n t) j)) (va_up (f_lt t) (f_n t) v)) (f_n t + 1)) o) 0) (va_up (m_c t) j v)) (m_n t + 1)) (va_up (m_ch t) j (m_n t + 1))) := ⟨(by show va_up (f_c t) j v = va_up (m_c t) j v; rw [J.fc]), (by show f_n t + 1 = m_n t + 1; rw [J.fn]), (h), (by
    intro f hf
    show va_up (m_c t) j v f ≠ -1
    by_cases hfj : f = j
    · subst hfj; rw [va_up_self]; exact hv
    · rw [va_up_ne _ _ hfj]; exact J.fne f hf), (by
    intro i hi
    show va_up (f_lf t) (f_n t) j i < 10
    by_cases h1 : i = f_n t
    · subst h1; rw [va_up_self]; exact hj
    · rw [va_up_ne _ _ h1]; exact J.flf i (by have := J.fn; have : i < m_n t + 1 := hi; omega)), (by
    intro f hf
    show va_up (m_c t) j v f = k_log (va_up (f_lf t) (f_n t) j) (va_up (f_lt t) (f_n t) v) (m_n t + 1) f
    rw [← J.fn, k_log_new]
    by_cases hfj : f = j
    · subst hfj; rw [va_up_self, if_pos rfl]
    · rw [va_up_ne _ _ hfj, if_neg (fun q => hfj q.symm), J.fcl f hf, J.fn]), (by
    intro f hf
    show va_up (m_ch t) j (m_n t + 1) f ≤ m_n t + 1
    by_cases hfj : f = j
    · subst hfj; rw [va_up_self]; exact Nat.le_refl _
    · rw [va_up_ne _ _ hfj]; have := J.ch f hf; omega), (by
    intro a f ha hf
    show k_chd (va_up (f_lf t) (f_n t) j) a (m_n t + 1) f = decide (a < va_up (m_ch t) j (m_n t + 1) f)
    rw [J.fn]; exact k_chd_new J.ch J.chd a f ha hf), J.xd, J.d360, J.th, J.md, J.onn, J.m60, J.wf, J.r1, J.r2, J.r3, J.r1b, J.r2b, J.r3b, J.rt, J.rtb, J.on, J.onb, J.b, J.blt, J.bth, J.ca, (fun k hk => Nat.le_succ_of_le (J.cab k hk)), J.kk, J.kc, J.dm, J.pv, J.ful, (by
    intro k hk f hf
    show k_fk (fun k f => m_k t (10 * k + f)) f (k_cl (m_b t) k) = k_log (va_up (f_lf t) (f_n t) j) (va_up (f_lt t) (f_n t) v) (m_at t k) f
    rw [k_log_up _ (by rw [J.fn]; exact J.cab k hk) f]; exact J.fk k hk f hf), J.sz0, J.dm0, J.pv0⟩
theorem k_J.swap {t : k_T} (J : k_J t) {j k : Nat} {o : Nat → Int64} (hj : j < 365) (hk : k < 365) : k_J (set_m_l (set_m_rt (set_l_o (set_r_p t (k_ex (r_p t) j k)) o) (k_ex (m_rt t) j k)) 0) := ⟨J.fc, J.fn, J.fn3, J.fne, J.flf, J.fcl, J.ch, J.chd, J.xd, J.d360, J.th, J.md, J.onn, J.m60, J.wf, J.r1, J.r2, J.r3, J.r1b, J.r2b, J.r3b, (by show k_ex (r_p t) j k = k_ex (m_rt t) j k; rw [J.rt]), (k_ex_lt J.rtb hj hk), J.on, J.onb, J.b, J.blt, J.bth, J.ca, J.cab, J.kk, J.kc, J.dm, J.pv, J.ful, J.fk, J.sz0, J.dm0, J.pv0⟩
theorem k_J.drill {t : k_T} (J : k_J t) {F F2 : Nat → Bool} {o : Nat → Int64} (h : ∀ k, k < m_md t → F k = F2 k) (h2 : ∀ k, m_md t ≤ k → F2 k = false) : k_J (set_m_pv (set_m_l (set_l_o (set_o_pv t F) o) 0) F2) := ⟨J.fc, J.fn, J.fn3, J.fne, J.flf, J.fcl, J.ch, J.chd, J.xd, J.d360, J.th, J.md, J.onn, J.m60, J.wf, J.r1, J.r2, J.r3, J.r1b, J.r2b, J.r3b, J.rt, J.rtb, J.on, J.onb, J.b, J.blt, J.bth, J.ca, J.cab, J.kk, J.kc, J.dm, (h), J.ful, J.fk, J.sz0, J.dm0, (h2)⟩
theorem k_J.damage {t : k_T} (J : k_J t) {j : Nat} {P N P2 N2 : Nat → Bool} {o : Nat → Int64} (hj : j < m_md t) : k_J (set_m_nd (set_m_pm (set_m_pv (set_m_dm (set_m_l (set_l_o (set_o_nd (set_o_pm (set_o_pv (set_o_dm t (va_up (o_dm t) j true)) (va_up (o_pv t) j false)) P) N) o) 0) (va_up (m_dm t) j true)) (va_up (m_pv t) j false)) P2) N2) := ⟨J.fc, J.fn, J.fn3, J.fne, J.flf, J.fcl, J.ch, J.chd, J.xd, J.d360, J.th, J.md, J.onn, J.m60, J.wf, J.r1, J.r2, J.r3, J.r1b, J.r2b, J.r3b, J.rt, J.rtb, J.on, J.onb, J.b, J.blt, J.bth, J.ca, J.cab, J.kk, J.kc, (fun k hk => by show va_up (o_dm t) j true k = va_up (m_dm t) j true k; simp only [va_up, J.dm k hk]), (fun k hk => by show va_up (o_pv t) j false k = va_up (m_pv t) j false k; simp only [va_up, J.pv k hk]), J.ful, J.fk, J.sz0, (fun k hk => by show va_up (m_dm t) j true k = false; rw [va_up_ne _ _ (by have : m_md t ≤ k := hk; omega)]; exact J.dm0 k hk), (fun k hk => by show va_up (m_pv t) j false k = false; rw [va_up_ne _ _ (by have : m_md t ≤ k := hk; omega)]; exact J.pv0 k hk)⟩
theorem k_J.mark {t : k_T} (J : k_J t) {P N P2 N2 : Nat → Bool} {o : Nat → Int64} {n : Nat} : k_J (set_m_l (set_m_nd (set_m_pm (set_l_o (set_o_nd (set_o_pm t P) N) o) P2) N2) n) := ⟨J.fc, J.fn, J.fn3, J.fne, J.flf, J.fcl, J.ch, J.chd, J.xd, J.d360, J.th, J.md, J.onn, J.m60, J.wf, J.r1, J.r2, J.r3, J.r1b, J.r2b, J.r3b, J.rt, J.rtb, J.on, J.onb, J.b, J.blt, J.bth, J.ca, J.cab, J.kk, J.kc, J.dm, J.pv, J.ful, J.fk, J.sz0, J.dm0, J.pv0⟩
theorem k_J.setRules {t : k_T} (J : k_J t) {ra rb rc : Nat} {P N P2 N2 : Nat → Bool} {o : Nat → Int64} (h1 : ra ≤ 30) (h2 : rb ≤ 20) (h3 : rc ≤ 12) : k_J (set_m_nd (set_m_pm (set_m_r3 (set_m_r2 (set_m_r1 (set_m_l (set_l_o (set_o_nd (set_o_pm (set_s_r3 (set_s_r2 (set_s_r1 t ra) rb) rc) P) N) o) 0) ra) rb) rc) P2) N2) := ⟨J.fc, J.fn, J.fn3, J.fne, J.flf, J.fcl, J.ch, J.chd, J.xd, J.d360, J.th, J.md, J.onn, J.m60, J.wf, (rfl), (rfl), (rfl), (h1), (Nat.le_trans h2 (by decide)), (Nat.le_trans h3 (by decide)), J.rt, J.rtb, J.on, J.onb, J.b, J.blt, J.bth, J.ca, J.cab, J.kk, J.kc, J.dm, J.pv, J.ful, J.fk, J.sz0, J.dm0, J.pv0⟩
theorem k_J.thin {t : k_T} (J : k_J t) {P N Hd P2 N2 LS th1 th2 : Nat → Bool} (h : th1 = th2) (h2 : ∀ j, th2 j = true → m_th t j = true) (h3 : ∀ k b, th2 k = true → m_b t k = some b → th2 b = true) : k_J (set_m_th (set_m_ls (set_m_nd (set_m_pm (set_m_l (set_s_th (set_o_hd (set_o_nd (set_o_pm t P) N) Hd) th1) 0) P2) N2) LS) th2) := ⟨J.fc, J.fn, J.fn3, J.fne, J.flf, J.fcl, J.ch, J.chd, J.xd, J.d360, (h), J.md, J.onn, J.m60, (fun j hj => J.wf j (h2 j hj)), J.r1, J.r2, J.r3, J.r1b, J.r2b, J.r3b, J.rt, J.rtb, J.on, J.onb, J.b, J.blt, (h3), J.ca, J.cab, J.kk, J.kc, J.dm, J.pv, J.ful, J.fk, J.sz0, J.dm0, J.pv0⟩
