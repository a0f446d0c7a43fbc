theorem k_LS_out {M : Nat} {th nd ls : Nat → Bool} {bs : Nat → Option Nat} {on : Nat → Nat} {z : Int32} {k : Nat} (hk : k < M) (h : th k = false) : k_LS M th nd bs on ls z k = false := by
  show (!(k_hl th bs M (fun q => !(k_L0 M th nd on ls z q)) k)) = false
  rw [k_hl_mono M _ k (by show (!(k_L0 M th nd on ls z k)) = true; simp only [k_L0, decide_eq_true hk, if_true, h, Bool.false_and, Bool.not_false])]
  rfl
theorem k_J.th2 {t : k_T} (J : k_J t) {z : Int32} {od nd' : Nat → Bool} (hnd : ∀ k, m_th t k = true → od k = nd' k) : (fun j => s_th t j && k_Hd (s_th t) od (o_b t) (o_on t) (o_hd t) z j) = (fun j => m_th t j && !(k_LS (m_md t) (m_th t) nd' (m_b t) (m_on t) (m_ls t) z j)) := by
  funext j
  show (s_th t j && _) = (m_th t j && _)
  cases h : m_th t j with
  | false => rw [show s_th t j = false from by rw [J.th]; exact h]; rfl
  | true => rw [J.ls (r1 := 0) (r2 := 0) (r3 := 0) hnd j h, show s_th t j = true from by rw [J.th]; exact h]
theorem k_J.cnt2 {t : k_T} (J : k_J t) {z : Int32} {od nd' : Nat → Bool} (hnd : ∀ k, m_th t k = true → od k = nd' k) : k_sm (fun k => s_th t k && !(k_Hd (s_th t) od (o_b t) (o_on t) (o_hd t) z k)) (fun k => o_kc t k + 1) 60 = k_sm (k_LS (m_md t) (m_th t) nd' (m_b t) (m_on t) (m_ls t) z) (fun k => m_sz t k + 1) (m_md t) := by
  refine k_sm_ext 60 J.m60 (fun k hk => ?_) (fun k hk => by simp only [J.kc k hk]) (fun k hk => by simp only [J.thf hk, Bool.false_and])
  cases h : m_th t k with
  | false => rw [show s_th t k = false from by rw [J.th]; exact h, k_LS_out hk h]; rfl
  | true => rw [J.ls (r1 := 0) (r2 := 0) (r3 := 0) hnd k h, show s_th t k = true from by rw [J.th]; exact h, Bool.true_and, Bool.not_not]
theorem k_J.bth2 {t : k_T} (J : k_J t) {z : Int32} {nd' : Nat → Bool} : ∀ k b, (m_th t k && !(k_LS (m_md t) (m_th t) nd' (m_b t) (m_on t) (m_ls t) z k)) = true → m_b t k = some b → (m_th t b && !(k_LS (m_md t) (m_th t) nd' (m_b t) (m_on t) (m_ls t) z b)) = true := by
  intro k b h hb
  rw [Bool.and_eq_true] at h ⊢
  refine ⟨J.bth k b h.1 hb, ?_⟩
  have h2 := h.2
  simp only [k_LS, Bool.not_not] at h2 ⊢
  exact k_hl_base (fun k b hk hb => J.blt k b (J.wf k hk) hb) _ _ k b (J.wf k h.1) h.1 hb h2
