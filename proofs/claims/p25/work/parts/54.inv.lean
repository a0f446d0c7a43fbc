/-- the law's rows and the vault say the same; e: how many rounds have been -/
def q_J (e : Nat) (t : k_T) : Prop := (f_n t ≤ e) ∧ (∀ j, j < 4 → f_c t j = w_c t j) ∧ (∀ j, 4 ≤ j → j < 10 → f_c t j = nI 0) ∧ (∀ j, j < 4 → ∃ v, v < 100 ∧ w_c t j = nI v) ∧ (∀ i, i < f_n t → f_lf t i < 4) ∧ (∀ j, j < 10 → f_c t j = k_log (f_lf t) (f_lt t) (f_n t) j) ∧ (x_d t ≤ 58) ∧ (o_n t = s_md t) ∧ (s_md t ≤ 14) ∧ (∀ j, s_th t j = true → j < s_md t) ∧ (s_r1 t ≤ 30) ∧ (s_r2 t ≤ 30) ∧ (s_r3 t ≤ 30) ∧ (∀ i, i < 365 → r_p t i < 5) ∧ (∀ k, k < 63 → r_p t k ≠ r_p t (k + 1)) ∧ (∀ k, k < s_md t → o_on t k ≤ x_d t) ∧ (∀ i j, i ≤ j → j < s_md t → o_on t i ≤ o_on t j) ∧ (∀ k b, k < s_md t → o_b t k = some b → b < k) ∧ (∀ k b, s_th t k = true → o_b t k = some b → s_th t b = true) ∧ (∀ k, k < s_md t → o_ca t k ≤ f_n t) ∧ (∀ k, k < s_md t → o_kc t k ≤ 10) ∧ (∀ k, s_md t ≤ k → o_dm t k = false) ∧ (∀ k, s_md t ≤ k → o_pv t k = false) ∧ (∀ k, k < s_md t → o_b t k = none → ∀ f, f < 10 → ¬ o_k t k f = -1) ∧ (∀ k, k < s_md t → ∀ f, f < 10 → k_fk (o_k t) f (k_cl (o_b t) k) = k_log (f_lf t) (f_lt t) (o_ca t k) f) ∧ (w_m t 0 = nI (s_md t)) ∧ (w_m t 1 = nI (x_d t)) ∧ (w_m t 2 = kB (s_th t)) ∧ (w_m t 3 = kB (o_dm t)) ∧ (w_m t 4 = kB (o_pv t)) ∧ (w_m t 5 = nI (s_r1 t)) ∧ (w_m t 6 = nI (s_r2 t)) ∧ (w_m t 7 = nI (s_r3 t)) ∧ (∀ k, k < s_md t → w_x t k = nI (o_on t k)) ∧ (∀ k, k < s_md t → w_x t (14 + k) = kO (o_b t k)) ∧ (∀ k, k < s_md t → w_x t (28 + k) = nI (o_kc t k)) ∧ (∀ k, k < s_md t → w_x t (42 + k) = kB (k_chd (f_lf t) (o_ca t k) (f_n t))) ∧ (∀ k, k < s_md t → ∀ f, f < 4 → w_w t (4 * k + f) = k_log (f_lf t) (f_lt t) (o_ca t k) f) ∧ (∀ k, k < 64 → w_r t k = nI (r_p t k))
theorem q_J.fn {e : Nat} {t : k_T} (J : q_J e t) : f_n t ≤ e := J.1
theorem q_J.fc4 {e : Nat} {t : k_T} (J : q_J e t) : ∀ j, j < 4 → f_c t j = w_c t j := J.2.1
theorem q_J.fc0 {e : Nat} {t : k_T} (J : q_J e t) : ∀ j, 4 ≤ j → j < 10 → f_c t j = nI 0 := J.2.2.1
theorem q_J.c99 {e : Nat} {t : k_T} (J : q_J e t) : ∀ j, j < 4 → ∃ v, v < 100 ∧ w_c t j = nI v := J.2.2.2.1
theorem q_J.flf {e : Nat} {t : k_T} (J : q_J e t) : ∀ i, i < f_n t → f_lf t i < 4 := J.2.2.2.2.1
theorem q_J.fcl {e : Nat} {t : k_T} (J : q_J e t) : ∀ j, j < 10 → f_c t j = k_log (f_lf t) (f_lt t) (f_n t) j := J.2.2.2.2.2.1
theorem q_J.d58 {e : Nat} {t : k_T} (J : q_J e t) : x_d t ≤ 58 := J.2.2.2.2.2.2.1
theorem q_J.onn {e : Nat} {t : k_T} (J : q_J e t) : o_n t = s_md t := J.2.2.2.2.2.2.2.1
theorem q_J.m14 {e : Nat} {t : k_T} (J : q_J e t) : s_md t ≤ 14 := J.2.2.2.2.2.2.2.2.1
theorem q_J.wf {e : Nat} {t : k_T} (J : q_J e t) : ∀ j, s_th t j = true → j < s_md t := J.2.2.2.2.2.2.2.2.2.1
theorem q_J.r1b {e : Nat} {t : k_T} (J : q_J e t) : s_r1 t ≤ 30 := J.2.2.2.2.2.2.2.2.2.2.1
theorem q_J.r2b {e : Nat} {t : k_T} (J : q_J e t) : s_r2 t ≤ 30 := J.2.2.2.2.2.2.2.2.2.2.2.1
theorem q_J.r3b {e : Nat} {t : k_T} (J : q_J e t) : s_r3 t ≤ 30 := J.2.2.2.2.2.2.2.2.2.2.2.2.1
theorem q_J.rtb {e : Nat} {t : k_T} (J : q_J e t) : ∀ i, i < 365 → r_p t i < 5 := J.2.2.2.2.2.2.2.2.2.2.2.2.2.1
theorem q_J.rn {e : Nat} {t : k_T} (J : q_J e t) : ∀ k, k < 63 → r_p t k ≠ r_p t (k + 1) := J.2.2.2.2.2.2.2.2.2.2.2.2.2.2.1
theorem q_J.onb {e : Nat} {t : k_T} (J : q_J e t) : ∀ k, k < s_md t → o_on t k ≤ x_d t := J.2.2.2.2.2.2.2.2.2.2.2.2.2.2.2.1
theorem q_J.mo {e : Nat} {t : k_T} (J : q_J e t) : ∀ i j, i ≤ j → j < s_md t → o_on t i ≤ o_on t j := J.2.2.2.2.2.2.2.2.2.2.2.2.2.2.2.2.1
theorem q_J.blt {e : Nat} {t : k_T} (J : q_J e t) : ∀ k b, k < s_md t → o_b t k = some b → b < k := J.2.2.2.2.2.2.2.2.2.2.2.2.2.2.2.2.2.1
theorem q_J.bth {e : Nat} {t : k_T} (J : q_J e t) : ∀ k b, s_th t k = true → o_b t k = some b → s_th t b = true := J.2.2.2.2.2.2.2.2.2.2.2.2.2.2.2.2.2.2.1
theorem q_J.cab {e : Nat} {t : k_T} (J : q_J e t) : ∀ k, k < s_md t → o_ca t k ≤ f_n t := J.2.2.2.2.2.2.2.2.2.2.2.2.2.2.2.2.2.2.2.1
theorem q_J.kcb {e : Nat} {t : k_T} (J : q_J e t) : ∀ k, k < s_md t → o_kc t k ≤ 10 := J.2.2.2.2.2.2.2.2.2.2.2.2.2.2.2.2.2.2.2.2.1
theorem q_J.dm0 {e : Nat} {t : k_T} (J : q_J e t) : ∀ k, s_md t ≤ k → o_dm t k = false := J.2.2.2.2.2.2.2.2.2.2.2.2.2.2.2.2.2.2.2.2.2.1
theorem q_J.pv0 {e : Nat} {t : k_T} (J : q_J e t) : ∀ k, s_md t ≤ k → o_pv t k = false := J.2.2.2.2.2.2.2.2.2.2.2.2.2.2.2.2.2.2.2.2.2.2.1
theorem q_J.ful {e : Nat} {t : k_T} (J : q_J e t) : ∀ k, k < s_md t → o_b t k = none → ∀ f, f < 10 → ¬ o_k t k f = -1 := J.2.2.2.2.2.2.2.2.2.2.2.2.2.2.2.2.2.2.2.2.2.2.2.1
theorem q_J.fk {e : Nat} {t : k_T} (J : q_J e t) : ∀ k, k < s_md t → ∀ f, f < 10 → k_fk (o_k t) f (k_cl (o_b t) k) = k_log (f_lf t) (f_lt t) (o_ca t k) f := J.2.2.2.2.2.2.2.2.2.2.2.2.2.2.2.2.2.2.2.2.2.2.2.2.1
theorem q_J.wm0 {e : Nat} {t : k_T} (J : q_J e t) : w_m t 0 = nI (s_md t) := J.2.2.2.2.2.2.2.2.2.2.2.2.2.2.2.2.2.2.2.2.2.2.2.2.2.1
theorem q_J.wm1 {e : Nat} {t : k_T} (J : q_J e t) : w_m t 1 = nI (x_d t) := J.2.2.2.2.2.2.2.2.2.2.2.2.2.2.2.2.2.2.2.2.2.2.2.2.2.2.1
theorem q_J.wm2 {e : Nat} {t : k_T} (J : q_J e t) : w_m t 2 = kB (s_th t) := J.2.2.2.2.2.2.2.2.2.2.2.2.2.2.2.2.2.2.2.2.2.2.2.2.2.2.2.1
theorem q_J.wm3 {e : Nat} {t : k_T} (J : q_J e t) : w_m t 3 = kB (o_dm t) := J.2.2.2.2.2.2.2.2.2.2.2.2.2.2.2.2.2.2.2.2.2.2.2.2.2.2.2.2.1
theorem q_J.wm4 {e : Nat} {t : k_T} (J : q_J e t) : w_m t 4 = kB (o_pv t) := J.2.2.2.2.2.2.2.2.2.2.2.2.2.2.2.2.2.2.2.2.2.2.2.2.2.2.2.2.2.1
theorem q_J.wm5 {e : Nat} {t : k_T} (J : q_J e t) : w_m t 5 = nI (s_r1 t) := J.2.2.2.2.2.2.2.2.2.2.2.2.2.2.2.2.2.2.2.2.2.2.2.2.2.2.2.2.2.2.1
theorem q_J.wm6 {e : Nat} {t : k_T} (J : q_J e t) : w_m t 6 = nI (s_r2 t) := J.2.2.2.2.2.2.2.2.2.2.2.2.2.2.2.2.2.2.2.2.2.2.2.2.2.2.2.2.2.2.2.1
theorem q_J.wm7 {e : Nat} {t : k_T} (J : q_J e t) : w_m t 7 = nI (s_r3 t) := J.2.2.2.2.2.2.2.2.2.2.2.2.2.2.2.2.2.2.2.2.2.2.2.2.2.2.2.2.2.2.2.2.1
theorem q_J.wx0 {e : Nat} {t : k_T} (J : q_J e t) : ∀ k, k < s_md t → w_x t k = nI (o_on t k) := J.2.2.2.2.2.2.2.2.2.2.2.2.2.2.2.2.2.2.2.2.2.2.2.2.2.2.2.2.2.2.2.2.2.1
theorem q_J.wx1 {e : Nat} {t : k_T} (J : q_J e t) : ∀ k, k < s_md t → w_x t (14 + k) = kO (o_b t k) := J.2.2.2.2.2.2.2.2.2.2.2.2.2.2.2.2.2.2.2.2.2.2.2.2.2.2.2.2.2.2.2.2.2.2.1
theorem q_J.wx2 {e : Nat} {t : k_T} (J : q_J e t) : ∀ k, k < s_md t → w_x t (28 + k) = nI (o_kc t k) := J.2.2.2.2.2.2.2.2.2.2.2.2.2.2.2.2.2.2.2.2.2.2.2.2.2.2.2.2.2.2.2.2.2.2.2.1
theorem q_J.wx3 {e : Nat} {t : k_T} (J : q_J e t) : ∀ k, k < s_md t → w_x t (42 + k) = kB (k_chd (f_lf t) (o_ca t k) (f_n t)) := J.2.2.2.2.2.2.2.2.2.2.2.2.2.2.2.2.2.2.2.2.2.2.2.2.2.2.2.2.2.2.2.2.2.2.2.2.1
theorem q_J.ww {e : Nat} {t : k_T} (J : q_J e t) : ∀ k, k < s_md t → ∀ f, f < 4 → w_w t (4 * k + f) = k_log (f_lf t) (f_lt t) (o_ca t k) f := J.2.2.2.2.2.2.2.2.2.2.2.2.2.2.2.2.2.2.2.2.2.2.2.2.2.2.2.2.2.2.2.2.2.2.2.2.2.1
theorem q_J.wr {e : Nat} {t : k_T} (J : q_J e t) : ∀ k, k < 64 → w_r t k = nI (r_p t k) := J.2.2.2.2.2.2.2.2.2.2.2.2.2.2.2.2.2.2.2.2.2.2.2.2.2.2.2.2.2.2.2.2.2.2.2.2.2.2
theorem k_mp {α : Type} {f : Nat → α} {n : Nat} {v : α} {P : Nat → α → Prop} (h : ∀ k, k < n → P k (f k)) (hv : P n v) : ∀ k, k < n + 1 → P k (va_up f n v k) := by
  intro k hk
  by_cases h1 : k = n
  · subst h1; rw [va_up_self]; exact hv
  · rw [va_up_ne _ _ h1]; exact h k (by omega)
theorem k_fk_ext {K K2 : Nat → Nat → Int32} {f : Nat} : ∀ l : List Nat, (∀ j ∈ l, K j f = K2 j f) → k_fk K f l = k_fk K2 f l := by
  intro l
  induction l with
  | nil => intro _; rfl
  | cons a l ih => intro h; simp only [k_fk, ih (fun j hj => h j (List.mem_cons_of_mem _ hj)), h a List.mem_cons_self]
theorem k_cl_old {bs : Nat → Option Nat} {n k : Nat} {bo : Option Nat} (h : k < n) : k_cl (va_up bs n bo) k = k_cl bs k := k_cl_ext (M := n) (fun j hj => va_up_ne _ _ (by omega)) k h
theorem q_fk_old {M k f : Nat} {ks : Nat → Int32} {K : Nat → Nat → Int32} {bs : Nat → Option Nat} {bo : Option Nat} (h : k < M) : k_fk (va_up K M ks) f (k_cl (va_up bs M bo) k) = k_fk K f (k_cl bs k) := by
  rw [k_cl_old h]
  exact k_fk_ext _ (fun j hj => by rw [va_up_ne _ _ (show j ≠ M by have := k_cl_le k j hj; omega)])
theorem q_fk_new {M f : Nat} {ks : Nat → Int32} {K : Nat → Nat → Int32} {bs : Nat → Option Nat} {bo : Option Nat} (hbo : ∀ b, bo = some b → b < M) : k_fk (va_up K M ks) f (k_cl (va_up bs M bo) M) = if ks f = -1 then k_fk K f (k_clo bs bo) else ks f := by
  cases hb : bo with
  | none => rw [k_cl_none (va_up_self _ _ _), k_fk, va_up_self]; rfl
  | some b =>
    have hlt := hbo b hb
    rw [k_cl_cons (b := b) (va_up_self _ _ _) hlt, k_fk, va_up_self, q_fk_old hlt]
    rfl
theorem k_chd_ge {lf : Nat → Nat} {a f m : Nat} (hf : m ≤ f) : ∀ n, (∀ i, i < n → lf i < m) → k_chd lf a n f = false := by
  intro n
  induction n with
  | zero => intro _; rfl
  | succ n ih =>
    intro h
    simp only [k_chd, ih (fun i hi => h i (by omega)), Bool.false_or]
    rw [decide_eq_false (show ¬ lf n = f from fun q => by have := h n (by omega); omega), Bool.and_false]
theorem k_log_ge {lf : Nat → Nat} {lt : Nat → Int32} {f m : Nat} (hf : m ≤ f) : ∀ n, (∀ i, i < n → lf i < m) → k_log lf lt n f = nI 0 := by
  intro n
  induction n with
  | zero => intro _; rfl
  | succ n ih =>
    intro h
    simp only [k_log, if_neg (show ¬ lf n = f from fun q => by have := h n (by omega); omega)]
    exact ih (fun i hi => h i (by omega))
theorem k_cn_cb {K : Nat → Int32} {p : Nat → Bool} : ∀ n, (∀ j, j < n → (p j = true ↔ ¬ K j = -1)) → k_cn K n = k_cb p n := by
  intro n
  induction n with
  | zero => intro _; rfl
  | succ n ih =>
    intro h
    have h1 := h n (by omega)
    simp only [k_cn, k_cb, ih (fun j hj => h j (by omega))]
    by_cases hk : K n = -1
    · rw [if_pos hk, if_neg (fun q => h1.mp q hk), Nat.add_zero]
    · rw [if_neg hk, if_pos (h1.mpr hk)]
theorem q_J.mono {e : Nat} {t : k_T} (J : q_J e t) {e2 : Nat} (h : e ≤ e2) : q_J e2 t := ⟨(Nat.le_trans J.fn h), J.fc4, J.fc0, J.c99, J.flf, J.fcl, J.d58, J.onn, J.m14, J.wf, J.r1b, J.r2b, J.r3b, J.rtb, J.rn, J.onb, J.mo, J.blt, J.bth, J.cab, J.kcb, J.dm0, J.pv0, J.ful, J.fk, J.wm0, J.wm1, J.wm2, J.wm3, J.wm4, J.wm5, J.wm6, J.wm7, J.wx0, J.wx1, J.wx2, J.wx3, J.ww, J.wr⟩
theorem q_J.fne {e : Nat} {t : k_T} (J : q_J e t) : ∀ j, j < 10 → f_c t j ≠ -1 := by
  intro j hj
  rcases Nat.lt_or_ge j 4 with h | h
  · obtain ⟨v, h1, h2⟩ := J.c99 j h
    rw [J.fc4 j h, h2]
    exact k_nm1 (by omega)
  · rw [J.fc0 j h hj]; decide
theorem q_J.A {e : Nat} {t : k_T} (J : q_J e t) : q_A t (s_md t) (s_th t) (o_on t) (o_b t) := ⟨J.m14, J.wm0, J.wm2, J.wf, J.wx0, fun k hk => by have := J.onb k hk; have := J.d58; omega, J.mo, J.wx1, J.blt⟩
theorem q_J.R {e : Nat} {t : k_T} (J : q_J e t) : q_R t (s_r1 t) (s_r2 t) (s_r3 t) := ⟨J.wm5, J.wm6, J.wm7, J.r1b, J.r2b, J.r3b⟩
theorem q_J.hwf {e : Nat} {t : k_T} (J : q_J e t) : ∀ j, s_th t j = true → j < o_n t := fun j h => by rw [J.onn]; exact J.wf j h
theorem q_J.hbs {e : Nat} {t : k_T} (J : q_J e t) : ∀ k b, k < o_n t → o_b t k = some b → b < o_n t ∧ b < k := fun k b h1 h2 => by
  rw [J.onn] at h1 ⊢
  have h3 := J.blt k b h1 h2
  exact ⟨by omega, h3⟩
theorem q_J.hn60 {e : Nat} {t : k_T} (J : q_J e t) : o_n t ≤ 60 := by rw [J.onn]; have := J.m14; omega
theorem q_J.hon {e : Nat} {t : k_T} (J : q_J e t) : ∀ j, j < o_n t → o_on t j ≤ 360 := fun j h => by rw [J.onn] at h; have := J.onb j h; have := J.d58; omega
theorem q_J.h60 {e : Nat} {t : k_T} (J : q_J e t) {j : Nat} (h : s_th t j = true) : j < 60 := by have := J.wf j h; have := J.m14; omega
theorem q_J.hd {e : Nat} {t : k_T} (J : q_J e t) : x_d t ≤ 360 := by have := J.d58; omega
theorem q_J.thf {e : Nat} {t : k_T} (J : q_J e t) {k : Nat} (h : s_md t ≤ k) : s_th t k = false := by
  cases h2 : s_th t k with
  | false => rfl
  | true => have := J.wf k h2; omega
theorem q_J.wm {e : Nat} {t : k_T} (J : q_J e t) {M : Nat → Int32} (h : ∀ i, i < 8 → M i = w_m t i) : q_J e (set_w_m t M) := ⟨J.fn, J.fc4, J.fc0, J.c99, J.flf, J.fcl, J.d58, J.onn, J.m14, J.wf, J.r1b, J.r2b, J.r3b, J.rtb, J.rn, J.onb, J.mo, J.blt, J.bth, J.cab, J.kcb, J.dm0, J.pv0, J.ful, J.fk, ((h 0 (by decide)).trans J.wm0), ((h 1 (by decide)).trans J.wm1), ((h 2 (by decide)).trans J.wm2), ((h 3 (by decide)).trans J.wm3), ((h 4 (by decide)).trans J.wm4), ((h 5 (by decide)).trans J.wm5), ((h 6 (by decide)).trans J.wm6), ((h 7 (by decide)).trans J.wm7), J.wx0, J.wx1, J.wx2, J.wx3, J.ww, J.wr⟩
theorem q_J.rr {e : Nat} {t : k_T} (J : q_J e t) {R : Nat → Int32} (h : ∀ i, i < 64 → R i = w_r t i) : q_J e (set_w_r t R) := ⟨J.fn, J.fc4, J.fc0, J.c99, J.flf, J.fcl, J.d58, J.onn, J.m14, J.wf, J.r1b, J.r2b, J.r3b, J.rtb, J.rn, J.onb, J.mo, J.blt, J.bth, J.cab, J.kcb, J.dm0, J.pv0, J.ful, J.fk, J.wm0, J.wm1, J.wm2, J.wm3, J.wm4, J.wm5, J.wm6, J.wm7, J.wx0, J.wx1, J.wx2, J.wx3, J.ww, (fun k hk => (h k hk).trans (J.wr k hk))⟩
theorem q_J.mark {e : Nat} {t : k_T} (J : q_J e t) {P N : Nat → Bool} : q_J e (set_o_nd (set_o_pm t P) N) := ⟨J.fn, J.fc4, J.fc0, J.c99, J.flf, J.fcl, J.d58, J.onn, J.m14, J.wf, J.r1b, J.r2b, J.r3b, J.rtb, J.rn, J.onb, J.mo, J.blt, J.bth, J.cab, J.kcb, J.dm0, J.pv0, J.ful, J.fk, J.wm0, J.wm1, J.wm2, J.wm3, J.wm4, J.wm5, J.wm6, J.wm7, J.wx0, J.wx1, J.wx2, J.wx3, J.ww, J.wr⟩
theorem q_J.pass {e : Nat} {t : k_T} (J : q_J e t) {w : Nat} {V : Int32} (h : x_d t + w ≤ 58) (hV : V = nI (x_d t + w)) : q_J e (set_x_d (set_w_m t (va_up (w_m t) 1 V)) (x_d t + w)) := ⟨J.fn, J.fc4, J.fc0, J.c99, J.flf, J.fcl, (h), J.onn, J.m14, J.wf, J.r1b, J.r2b, J.r3b, J.rtb, J.rn, (fun k hk => Nat.le_trans (J.onb k hk) (Nat.le_add_right _ _)), J.mo, J.blt, J.bth, J.cab, J.kcb, J.dm0, J.pv0, J.ful, J.fk, ((va_up_ne (w_m t) V (show 0 ≠ 1 by decide)).trans J.wm0), ((va_up_self (w_m t) 1 V).trans hV), ((va_up_ne (w_m t) V (show 2 ≠ 1 by decide)).trans J.wm2), ((va_up_ne (w_m t) V (show 3 ≠ 1 by decide)).trans J.wm3), ((va_up_ne (w_m t) V (show 4 ≠ 1 by decide)).trans J.wm4), ((va_up_ne (w_m t) V (show 5 ≠ 1 by decide)).trans J.wm5), ((va_up_ne (w_m t) V (show 6 ≠ 1 by decide)).trans J.wm6), ((va_up_ne (w_m t) V (show 7 ≠ 1 by decide)).trans J.wm7), J.wx0, J.wx1, J.wx2, J.wx3, J.ww, J.wr⟩
theorem q_J.rules {e : Nat} {t : k_T} (J : q_J e t) {a b c : Nat} {M : Nat → Int32} {P N : Nat → Bool} (h1 : a ≤ 30) (h2 : b ≤ 30) (h3 : c ≤ 30) (hM : ∀ i, i < 5 → M i = w_m t i) (h5 : M 5 = nI a) (h6 : M 6 = nI b) (h7 : M 7 = nI c) : q_J e (set_o_nd (set_o_pm (set_s_r3 (set_s_r2 (set_s_r1 (set_w_m t M) a) b) c) P) N) := ⟨J.fn, J.fc4, J.fc0, J.c99, J.flf, J.fcl, J.d58, J.onn, J.m14, J.wf, (h1), (h2), (h3), J.rtb, J.rn, J.onb, J.mo, J.blt, J.bth, J.cab, J.kcb, J.dm0, J.pv0, J.ful, J.fk, ((hM 0 (by decide)).trans J.wm0), ((hM 1 (by decide)).trans J.wm1), ((hM 2 (by decide)).trans J.wm2), ((hM 3 (by decide)).trans J.wm3), ((hM 4 (by decide)).trans J.wm4), (h5), (h6), (h7), J.wx0, J.wx1, J.wx2, J.wx3, J.ww, J.wr⟩
theorem q_J.drill {e : Nat} {t : k_T} (J : q_J e t) {F : Nat → Bool} {V : Int32} (hV : V = kB F) (h : ∀ k, s_md t ≤ k → F k = false) : q_J e (set_o_pv (set_w_m t (va_up (w_m t) 4 V)) F) := ⟨J.fn, J.fc4, J.fc0, J.c99, J.flf, J.fcl, J.d58, J.onn, J.m14, J.wf, J.r1b, J.r2b, J.r3b, J.rtb, J.rn, J.onb, J.mo, J.blt, J.bth, J.cab, J.kcb, J.dm0, (h), J.ful, J.fk, ((va_up_ne (w_m t) V (show 0 ≠ 4 by decide)).trans J.wm0), ((va_up_ne (w_m t) V (show 1 ≠ 4 by decide)).trans J.wm1), ((va_up_ne (w_m t) V (show 2 ≠ 4 by decide)).trans J.wm2), ((va_up_ne (w_m t) V (show 3 ≠ 4 by decide)).trans J.wm3), ((va_up_self (w_m t) 4 V).trans hV), ((va_up_ne (w_m t) V (show 5 ≠ 4 by decide)).trans J.wm5), ((va_up_ne (w_m t) V (show 6 ≠ 4 by decide)).trans J.wm6), ((va_up_ne (w_m t) V (show 7 ≠ 4 by decide)).trans J.wm7), J.wx0, J.wx1, J.wx2, J.wx3, J.ww, J.wr⟩
theorem q_J.damage {e : Nat} {t : k_T} (J : q_J e t) {D V P N : Nat → Bool} {M : Nat → Int32} (hD : ∀ k, s_md t ≤ k → D k = false) (hV : ∀ k, s_md t ≤ k → V k = false) (h3 : M 3 = kB D) (h4 : M 4 = kB V) (hM : ∀ i, i ≠ 3 → i ≠ 4 → M i = w_m t i) : q_J e (set_o_nd (set_o_pm (set_o_pv (set_o_dm (set_w_m t M) D) V) P) N) := ⟨J.fn, J.fc4, J.fc0, J.c99, J.flf, J.fcl, J.d58, J.onn, J.m14, J.wf, J.r1b, J.r2b, J.r3b, J.rtb, J.rn, J.onb, J.mo, J.blt, J.bth, J.cab, J.kcb, (hD), (hV), J.ful, J.fk, ((hM 0 (by decide) (by decide)).trans J.wm0), ((hM 1 (by decide) (by decide)).trans J.wm1), ((hM 2 (by decide) (by decide)).trans J.wm2), (h3), (h4), ((hM 5 (by decide) (by decide)).trans J.wm5), ((hM 6 (by decide) (by decide)).trans J.wm6), ((hM 7 (by decide) (by decide)).trans J.wm7), J.wx0, J.wx1, J.wx2, J.wx3, J.ww, J.wr⟩
theorem q_J.thin {e : Nat} {t : k_T} (J : q_J e t) {P N H TH : Nat → Bool} {V : Int32} (hV : V = kB TH) (h1 : ∀ j, TH j = true → s_th t j = true) (h2 : ∀ k b, TH k = true → o_b t k = some b → TH b = true) : q_J e (set_w_m (set_s_th (set_o_hd (set_o_nd (set_o_pm t P) N) H) TH) (va_up (w_m t) 2 V)) := ⟨J.fn, J.fc4, J.fc0, J.c99, J.flf, J.fcl, J.d58, J.onn, J.m14, (fun j hj => J.wf j (h1 j hj)), J.r1b, J.r2b, J.r3b, J.rtb, J.rn, J.onb, J.mo, J.blt, (h2), J.cab, J.kcb, J.dm0, J.pv0, J.ful, J.fk, ((va_up_ne (w_m t) V (show 0 ≠ 2 by decide)).trans J.wm0), ((va_up_ne (w_m t) V (show 1 ≠ 2 by decide)).trans J.wm1), ((va_up_self (w_m t) 2 V).trans hV), ((va_up_ne (w_m t) V (show 3 ≠ 2 by decide)).trans J.wm3), ((va_up_ne (w_m t) V (show 4 ≠ 2 by decide)).trans J.wm4), ((va_up_ne (w_m t) V (show 5 ≠ 2 by decide)).trans J.wm5), ((va_up_ne (w_m t) V (show 6 ≠ 2 by decide)).trans J.wm6), ((va_up_ne (w_m t) V (show 7 ≠ 2 by decide)).trans J.wm7), J.wx0, J.wx1, J.wx2, J.wx3, J.ww, J.wr⟩
theorem q_J.swap {e : Nat} {t : k_T} (J : q_J e t) {p : Nat → Nat} {R : Nat → Int32} (h1 : ∀ i, i < 365 → p i < 5) (h2 : ∀ k, k < 63 → p k ≠ p (k + 1)) (h3 : ∀ k, k < 64 → R k = nI (p k)) : q_J e (set_r_p (set_w_r t R) p) := ⟨J.fn, J.fc4, J.fc0, J.c99, J.flf, J.fcl, J.d58, J.onn, J.m14, J.wf, J.r1b, J.r2b, J.r3b, (h1), (h2), J.onb, J.mo, J.blt, J.bth, J.cab, J.kcb, J.dm0, J.pv0, J.ful, J.fk, J.wm0, J.wm1, J.wm2, J.wm3, J.wm4, J.wm5, J.wm6, J.wm7, J.wx0, J.wx1, J.wx2, J.wx3, J.ww, (h3)⟩
theorem q_J.change {e : Nat} {t : k_T} (J : q_J e t) {j : Nat} {v : Int32} {X : Nat → Int32} (hj : j < 4) (hv : ∃ n, n < 100 ∧ v = nI n) (hX1 : ∀ k, k < s_md t → X (42 + k) = kB (va_up (k_chd (f_lf t) (o_ca t k) (f_n t)) j true)) (hX2 : ∀ i, i < 42 → X i = w_x t i) : q_J (e + 1) (set_f_n (set_f_lt (set_f_lf (set_f_c (set_w_x (set_w_c t (va_up (w_c t) j v)) X) (va_up (f_c t) j v)) (va_up (f_lf t) (f_n t) j)) (va_up (f_lt t) (f_n t) v)) (f_n t + 1)) := ⟨(Nat.succ_le_succ J.fn), (by
    intro f hf
    show va_up (f_c t) j v f = va_up (w_c t) j v f
    by_cases h : f = j
    · subst h; rw [va_up_self, va_up_self]
    · rw [va_up_ne _ _ h, va_up_ne _ _ h]; exact J.fc4 f hf), (by
    intro f h4 hf
    show va_up (f_c t) j v f = nI 0
    rw [va_up_ne _ _ (by omega)]; exact J.fc0 f h4 hf), (by
    intro f hf
    show ∃ n, n < 100 ∧ va_up (w_c t) j v f = nI n
    by_cases h : f = j
    · subst h; rw [va_up_self]; exact hv
    · rw [va_up_ne _ _ h]; exact J.c99 f hf), (k_mp (P := fun _ w => w < 4) J.flf hj), (by
    intro f hf
    show va_up (f_c t) j v f = k_log (va_up (f_lf t) (f_n t) j) (va_up (f_lt t) (f_n t) v) (f_n t + 1) f
    rw [k_log_new]
    by_cases h : f = j
    · subst h; rw [va_up_self, if_pos rfl]
    · rw [va_up_ne _ _ h, if_neg (fun q => h q.symm)]; exact J.fcl f hf), J.d58, J.onn, J.m14, J.wf, J.r1b, J.r2b, J.r3b, J.rtb, J.rn, J.onb, J.mo, J.blt, J.bth, (fun k hk => Nat.le_succ_of_le (J.cab k hk)), J.kcb, J.dm0, J.pv0, J.ful, (by
    intro k hk f hf
    show k_fk (o_k t) f (k_cl (o_b t) k) = k_log (va_up (f_lf t) (f_n t) j) (va_up (f_lt t) (f_n t) v) (o_ca t k) f
    rw [k_log_up _ (J.cab k hk) f]; exact J.fk k hk f hf), J.wm0, J.wm1, J.wm2, J.wm3, J.wm4, J.wm5, J.wm6, J.wm7, (fun k hk => (hX2 k (by have := J.m14; have : k < s_md t := hk; omega)).trans (J.wx0 k hk)), (fun k hk => (hX2 (14 + k) (by have := J.m14; have : k < s_md t := hk; omega)).trans (J.wx1 k hk)), (fun k hk => (hX2 (28 + k) (by have := J.m14; have : k < s_md t := hk; omega)).trans (J.wx2 k hk)), (by
    intro k hk
    have hk : k < s_md t := hk
    show X (42 + k) = kB (k_chd (va_up (f_lf t) (f_n t) j) (o_ca t k) (f_n t + 1))
    rw [hX1 k hk]
    refine kB_ext fun i _ => ?_
    simp only [k_chd]
    rw [k_chd_up _ (Nat.le_refl _) i, va_up_self, decide_eq_true (J.cab k hk), Bool.true_and]
    by_cases h : i = j
    · subst h; rw [va_up_self, decide_eq_true rfl, Bool.or_true]
    · rw [va_up_ne _ _ h, decide_eq_false (fun q => h q.symm), Bool.or_false]), (by
    intro k hk f hf
    show w_w t (4 * k + f) = k_log (va_up (f_lf t) (f_n t) j) (va_up (f_lt t) (f_n t) v) (o_ca t k) f
    rw [k_log_up _ (J.cab k hk) f]; exact J.ww k hk f hf), J.wr⟩
/-- a copy is made -/
theorem q_J.made {e : Nat} {t : k_T} (J : q_J e t) {bo : Option Nat} {ks X W M : Nat → Int32} (hm : s_md t < 14) (hbo : ∀ b, bo = some b → s_th t b = true)
    (hXo : ∀ i, i ≠ s_md t → i ≠ 14 + s_md t → i ≠ 28 + s_md t → i ≠ 42 + s_md t → X i = w_x t i) (hX1 : X (s_md t) = nI (x_d t)) (hX2 : X (14 + s_md t) = kO bo) (hX3 : X (28 + s_md t) = nI (k_cnt ks)) (hX4 : X (42 + s_md t) = nI 0)
    (hWo : ∀ i, i < 4 * s_md t → W i = w_w t i) (hWn : ∀ f, f < 4 → W (4 * s_md t + f) = w_c t f) (hM0 : M 0 = nI (s_md t + 1)) (hM2 : M 2 = kB (va_up (s_th t) (s_md t) true)) (hMo : ∀ i, i ≠ 0 → i ≠ 2 → M i = w_m t i)
    (hful : bo = none → ∀ f, f < 10 → ¬ ks f = -1) (hfk : ∀ f, f < 10 → (if ks f = -1 then k_fk (o_k t) f (k_clo (o_b t) bo) else ks f) = f_c t f) : q_J e (set_s_md (set_s_th (set_o_k (set_o_kc (set_o_n (set_o_hd (set_o_nd (set_o_pm (set_o_pv (set_o_dm (set_o_ca (set_o_b (set_o_on (set_w_m (set_w_w (set_w_x t X) W) M) (va_up (o_on t) (s_md t) (x_d t))) (va_up (o_b t) (s_md t) bo)) (va_up (o_ca t) (s_md t) (f_n t))) (va_up (o_dm t) (s_md t) false)) (va_up (o_pv t) (s_md t) false)) (va_up (o_pm t) (s_md t) false)) (va_up (o_nd t) (s_md t) false)) (va_up (o_hd t) (s_md t) false)) (s_md t + 1)) (va_up (o_kc t) (s_md t) (k_cnt ks))) (va_up (o_k t) (s_md t) ks)) (va_up (s_th t) (s_md t) true)) (s_md t + 1)) := ⟨J.fn, J.fc4, J.fc0, J.c99, J.flf, J.fcl, J.d58, (rfl), (hm), (by
    intro j hj
    show j < s_md t + 1
    by_cases h : j = s_md t
    · omega
    · have h2 : va_up (s_th t) (s_md t) true j = true := hj
      rw [va_up_ne _ _ h] at h2
      have := J.wf j h2; omega), J.r1b, J.r2b, J.r3b, J.rtb, J.rn, (k_mp (P := fun _ v => v ≤ x_d t) J.onb (Nat.le_refl _)), (by
    intro i j hij hj
    have hj2 : j < s_md t + 1 := hj
    show va_up (o_on t) (s_md t) (x_d t) i ≤ va_up (o_on t) (s_md t) (x_d t) j
    by_cases h : j = s_md t
    · rw [h, va_up_self]
      by_cases h2 : i = s_md t
      · rw [h2, va_up_self]; exact Nat.le_refl _
      · rw [va_up_ne _ _ h2]; exact J.onb i (by omega)
    · rw [va_up_ne _ _ h, va_up_ne _ _ (show i ≠ s_md t by omega)]; exact J.mo i j hij (by omega)), (by
    intro k b hk hb
    exact k_mp (P := fun k v => ∀ b, v = some b → b < k) (fun k hk b h => J.blt k b hk h) (fun b h => J.wf b (hbo b h)) k hk b hb), (by
    intro k b hk hb
    show va_up (s_th t) (s_md t) true b = true
    have hk2 : va_up (s_th t) (s_md t) true k = true := hk
    have hb2 : va_up (o_b t) (s_md t) bo k = some b := hb
    by_cases h2 : b = s_md t
    · rw [h2, va_up_self]
    · rw [va_up_ne _ _ h2]
      by_cases h : k = s_md t
      · rw [h, va_up_self] at hb2; exact hbo b hb2
      · rw [va_up_ne _ _ h] at hk2 hb2; exact J.bth k b hk2 hb2), (k_mp (P := fun _ v => v ≤ f_n t) J.cab (Nat.le_refl _)), (k_mp (P := fun _ v => v ≤ 10) J.kcb (k_cn_le _ _)), (by
    intro k hk
    have hk2 : s_md t + 1 ≤ k := hk
    show va_up (o_dm t) (s_md t) false k = false
    rw [va_up_ne _ _ (by omega)]; exact J.dm0 k (by omega)), (by
    intro k hk
    have hk2 : s_md t + 1 ≤ k := hk
    show va_up (o_pv t) (s_md t) false k = false
    rw [va_up_ne _ _ (by omega)]; exact J.pv0 k (by omega)), (by
    intro k hk hb f hf
    have hk2 : k < s_md t + 1 := hk
    have hb2 : va_up (o_b t) (s_md t) bo k = none := hb
    show ¬ va_up (o_k t) (s_md t) ks k f = -1
    by_cases h : k = s_md t
    · rw [h, va_up_self] at hb2 ⊢; exact hful hb2 f hf
    · rw [va_up_ne _ _ h] at hb2 ⊢; exact J.ful k (by omega) hb2 f hf), (by
    intro k hk f hf
    have hk2 : k < s_md t + 1 := hk
    show k_fk (va_up (o_k t) (s_md t) ks) f (k_cl (va_up (o_b t) (s_md t) bo) k) = k_log (f_lf t) (f_lt t) (va_up (o_ca t) (s_md t) (f_n t) k) f
    by_cases h : k = s_md t
    · rw [h, q_fk_new (fun b hb => J.wf b (hbo b hb)), va_up_self, ← J.fcl f hf]; exact hfk f hf
    · rw [q_fk_old (by omega), va_up_ne _ _ h]; exact J.fk k (by omega) f hf), (hM0), ((hMo 1 (by decide) (by decide)).trans J.wm1), (hM2), ((hMo 3 (by decide) (by decide)).trans (J.wm3.trans (kB_ext fun i _ => by
    show o_dm t i = va_up (o_dm t) (s_md t) false i
    by_cases h : i = s_md t
    · rw [h, va_up_self]; exact J.dm0 _ (Nat.le_refl _)
    · rw [va_up_ne _ _ h]))), ((hMo 4 (by decide) (by decide)).trans (J.wm4.trans (kB_ext fun i _ => by
    show o_pv t i = va_up (o_pv t) (s_md t) false i
    by_cases h : i = s_md t
    · rw [h, va_up_self]; exact J.pv0 _ (Nat.le_refl _)
    · rw [va_up_ne _ _ h]))), ((hMo 5 (by decide) (by decide)).trans J.wm5), ((hMo 6 (by decide) (by decide)).trans J.wm6), ((hMo 7 (by decide) (by decide)).trans J.wm7), (k_mp (f := o_on t) (P := fun k v => X k = nI v) (fun k hk => by rw [hXo k (by omega) (by omega) (by omega) (by omega)]; exact J.wx0 k hk) hX1), (k_mp (f := o_b t) (P := fun k v => X (14 + k) = kO v) (fun k hk => by rw [hXo _ (by omega) (by omega) (by omega) (by omega)]; exact J.wx1 k hk) hX2), (k_mp (f := o_kc t) (P := fun k v => X (28 + k) = nI v) (fun k hk => by rw [hXo _ (by omega) (by omega) (by omega) (by omega)]; exact J.wx2 k hk) hX3), (k_mp (f := o_ca t) (P := fun k v => X (42 + k) = kB (k_chd (f_lf t) v (f_n t))) (fun k hk => by rw [hXo _ (by omega) (by omega) (by omega) (by omega)]; exact J.wx3 k hk) (by
    rw [hX4, ← kB_0]
    exact kB_ext fun i _ => (k_chd_0 (Nat.le_refl _)).symm)), (k_mp (f := o_ca t) (P := fun k v => ∀ f, f < 4 → W (4 * k + f) = k_log (f_lf t) (f_lt t) v f) (fun k hk f hf => by rw [hWo _ (by omega)]; exact J.ww k hk f hf) (fun f hf => by rw [hWn f hf, ← J.fc4 f hf]; exact J.fcl f (by omega))), J.wr⟩
/-- what a full copy keeps, what an increment keeps -/
theorem q_J.full {e : Nat} {t : k_T} (J : q_J e t) : (∀ f, f < 10 → ¬ (fun j => if j < 10 then (f_c t) j else k_K0 j) f = -1) ∧ (∀ f, f < 10 → (if (fun j => if j < 10 then (f_c t) j else k_K0 j) f = -1 then k_fk (o_k t) f (k_clo (o_b t) none) else (fun j => if j < 10 then (f_c t) j else k_K0 j) f) = f_c t f) ∧ k_cnt (fun j => if j < 10 then (f_c t) j else k_K0 j) = 10 := by
  have h : ∀ f, f < 10 → (fun j => if j < 10 then (f_c t) j else k_K0 j) f = f_c t f := fun f hf => if_pos hf
  refine ⟨fun f hf => by rw [h f hf]; exact J.fne f hf, fun f hf => by rw [h f hf, if_neg (J.fne f hf)], ?_⟩
  have := k_cn_cb (K := fun j => if j < 10 then (f_c t) j else k_K0 j) (p := fun _ => true) 10 (fun f hf => ⟨fun _ q => J.fne f hf ((h f hf).symm.trans q), fun _ => rfl⟩)
  rw [k_cnt, this]; rfl
theorem q_J.incr {e : Nat} {t : k_T} (J : q_J e t) {b0 : Nat} (hb : s_th t b0 = true) : (∀ f, f < 10 → (if (fun j => if k_chd (f_lf t) (o_ca t b0) (f_n t) j = true then (f_c t) j else k_K0 j) f = -1 then k_fk (o_k t) f (k_clo (o_b t) (some b0)) else (fun j => if k_chd (f_lf t) (o_ca t b0) (f_n t) j = true then (f_c t) j else k_K0 j) f) = f_c t f) ∧ k_cnt (fun j => if k_chd (f_lf t) (o_ca t b0) (f_n t) j = true then (f_c t) j else k_K0 j) = k_cb (k_chd (f_lf t) (o_ca t b0) (f_n t)) 14 := by
  have hlt := J.wf b0 hb
  have hy : ∀ f, k_chd (f_lf t) (o_ca t b0) (f_n t) f = true → (fun j => if k_chd (f_lf t) (o_ca t b0) (f_n t) j = true then (f_c t) j else k_K0 j) f = f_c t f := fun f hf => if_pos hf
  have hn : ∀ f, f < 10 → k_chd (f_lf t) (o_ca t b0) (f_n t) f = false → (fun j => if k_chd (f_lf t) (o_ca t b0) (f_n t) j = true then (f_c t) j else k_K0 j) f = -1 := fun f h10 hf => (if_neg (by rw [hf]; decide)).trans (if_pos h10)
  refine ⟨fun f hf => ?_, ?_⟩
  · cases hc : k_chd (f_lf t) (o_ca t b0) (f_n t) f with
    | true => rw [hy f hc, if_neg (J.fne f hf)]
    | false =>
      rw [hn f hf hc, if_pos rfl]
      show k_fk (o_k t) f (k_cl (o_b t) b0) = f_c t f
      rw [J.fk b0 hlt f hf, J.fcl f hf, k_log_old _ (J.cab b0 hlt) f hc]
  · rw [k_cnt, k_cn_cb (p := k_chd (f_lf t) (o_ca t b0) (f_n t)) 10 (fun f hf => ?_)]
    · exact (k_cb_ext (M := 10) 14 (by decide) (fun _ _ => rfl) (fun k hk => k_chd_ge (m := 4) (by omega) _ J.flf)).symm
    · rcases Bool.eq_false_or_eq_true (k_chd (f_lf t) (o_ca t b0) (f_n t) f) with hc | hc
      · exact ⟨fun _ q => J.fne f hf ((hy f hc).symm.trans q), fun _ => hc⟩
      · exact ⟨fun q => absurd (hc.symm.trans q) (by decide), fun q => absurd (hn f hf hc) q⟩
