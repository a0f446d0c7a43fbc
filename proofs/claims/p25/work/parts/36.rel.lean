/-! the class's pure words (over 60 rows) and the model's (over the copies made) -/
theorem k_sel_ext {th : Nat → Bool} {pd : Nat → Nat} {M : Nat} (h : ∀ j, th j = true → j < M) : ∀ d left time k, k_sel th pd (M + d) left time k = k_sel th pd M left time k := by
  intro d
  induction d with
  | zero => intro left time k; rfl
  | succ d ih =>
    intro left time k
    rw [show M + (d + 1) = (M + d) + 1 from rfl, k_sel_n (fun q => by have := h _ q.1; omega)]
    exact ih left time k
theorem k_sel_60 {th : Nat → Bool} {pd : Nat → Nat} {M N : Nat} (h : ∀ j, th j = true → j < M) (hM : M ≤ N) (left : Nat) (time : Int32) (k : Nat) : k_sel th pd N left time k = k_sel th pd M left time k := by
  obtain ⟨d, rfl⟩ : ∃ d, N = M + d := ⟨N - M, by omega⟩
  exact k_sel_ext h d left time k
theorem k_sel_pd {th : Nat → Bool} {pd pd' : Nat → Nat} : ∀ N, (∀ j, j < N → pd j = pd' j) → ∀ left time k, k_sel th pd N left time k = k_sel th pd' N left time k := by
  intro N
  induction N with
  | zero => intro _ left time k; rfl
  | succ N ih =>
    intro h left time k
    have h1 := ih (fun j hj => h j (by omega))
    have h2 := h N (by omega)
    simp only [k_sel, h2, h1]
theorem k_sel_th {th : Nat → Bool} {pd : Nat → Nat} : ∀ N left time k, k_sel th pd N left time k = true → th k = true ∧ k < N := by
  intro N
  induction N with
  | zero => intro left time k h; cases h
  | succ N ih =>
    intro left time k h
    simp only [k_sel] at h
    split at h
    · cases h
    · split at h
      · rename_i h2
        rcases Bool.or_eq_true _ _ |>.mp h with h3 | h3
        · have := of_decide_eq_true h3
          subst this
          exact ⟨h2.1, by omega⟩
        · have := ih _ _ _ h3
          exact ⟨this.1, by omega⟩
      · have := ih _ _ _ h
        exact ⟨this.1, by omega⟩
theorem k_P_eq {th : Nat → Bool} {on on' : Nat → Nat} {M N r1 r2 r3 : Nat} (h : ∀ j, th j = true → j < M) (hM : M ≤ N) (ho : ∀ j, j < M → on j = on' j) : k_P th on N r1 r2 r3 = k_P th on' M r1 r2 r3 := by
  funext k
  simp only [k_P]
  rw [k_sel_60 h hM, k_sel_60 h hM, k_sel_60 h hM, k_sel_pd M (pd := fun j => k_pd 0 (on j)) (pd' := fun j => k_pd 0 (on' j)) (fun j hj => by simp only [ho j hj]), k_sel_pd M (pd := fun j => k_pd 1 (on j)) (pd' := fun j => k_pd 1 (on' j)) (fun j hj => by simp only [ho j hj]), k_sel_pd M (pd := fun j => k_pd 2 (on j)) (pd' := fun j => k_pd 2 (on' j)) (fun j hj => by simp only [ho j hj])]
theorem k_P_th {th : Nat → Bool} {on : Nat → Nat} {M r1 r2 r3 k : Nat} (h : k_P th on M r1 r2 r3 k = true) : th k = true ∧ k < M := by
  simp only [k_P, Bool.or_eq_true] at h
  rcases h with h | h | h
  · exact k_sel_th _ _ _ _ h
  · exact k_sel_th _ _ _ _ h
  · exact k_sel_th _ _ _ _ h
theorem k_cb_ext {p q : Nat → Bool} {M : Nat} : ∀ N, M ≤ N → (∀ k, k < M → p k = q k) → (∀ k, M ≤ k → p k = false) → k_cb p N = k_cb q M := by
  have h0 : ∀ M, (∀ k, k < M → p k = q k) → k_cb p M = k_cb q M := by
    intro M
    induction M with
    | zero => intro _; rfl
    | succ M ih => intro h; simp only [k_cb, h M (by omega), ih (fun k hk => h k (by omega))]
  intro N hN h1 h2
  obtain ⟨d, rfl⟩ : ∃ d, N = M + d := ⟨N - M, by omega⟩
  clear hN
  induction d with
  | zero => exact h0 M h1
  | succ d ih => rw [show M + (d + 1) = (M + d) + 1 from rfl, k_cb_n (h2 _ (by omega))]; exact ih
theorem k_sm_ext {p q : Nat → Bool} {v w : Nat → Nat} {M : Nat} : ∀ N, M ≤ N → (∀ k, k < M → p k = q k) → (∀ k, k < M → v k = w k) → (∀ k, M ≤ k → p k = false) → k_sm p v N = k_sm q w M := by
  have h0 : ∀ M, (∀ k, k < M → p k = q k) → (∀ k, k < M → v k = w k) → k_sm p v M = k_sm q w M := by
    intro M
    induction M with
    | zero => intro _ _; rfl
    | succ M ih => intro h h'; simp only [k_sm, h M (by omega), h' M (by omega), ih (fun k hk => h k (by omega)) (fun k hk => h' k (by omega))]
  intro N hN h1 h2 h3
  obtain ⟨d, rfl⟩ : ∃ d, N = M + d := ⟨N - M, by omega⟩
  clear hN
  induction d with
  | zero => exact h0 M h1 h2
  | succ d ih => rw [show M + (d + 1) = (M + d) + 1 from rfl, k_sm_n (h3 _ (by omega))]; exact ih
theorem k_lp_ext {p q : Nat → Bool} {v w : Nat → Nat} {M : Nat} : ∀ N, M ≤ N → (∀ k, k < M → p k = q k) → (∀ k, k < M → v k = w k) → (∀ k, M ≤ k → p k = false) → k_lp p v N = k_lp q w M := by
  have h0 : ∀ M, (∀ k, k < M → p k = q k) → (∀ k, k < M → v k = w k) → k_lp p v M = k_lp q w M := by
    intro M
    induction M with
    | zero => intro _ _; rfl
    | succ M ih => intro h h'; simp only [k_lp, h M (by omega), h' M (by omega), ih (fun k hk => h k (by omega)) (fun k hk => h' k (by omega))]
  intro N hN h1 h2 h3
  obtain ⟨d, rfl⟩ : ∃ d, N = M + d := ⟨N - M, by omega⟩
  clear hN
  induction d with
  | zero => exact h0 M h1 h2
  | succ d ih => rw [show M + (d + 1) = (M + d) + 1 from rfl, k_lp_n (h3 _ (by omega))]; exact ih
theorem k_la_ext {th : Nat → Bool} {M : Nat} : ∀ N, M ≤ N → (∀ k, th k = true → k < M) → k_la th N = k_la th M := by
  intro N hN h
  obtain ⟨d, rfl⟩ : ∃ d, N = M + d := ⟨N - M, by omega⟩
  clear hN
  induction d with
  | zero => rfl
  | succ d ih =>
    rw [show M + (d + 1) = (M + d) + 1 from rfl, k_la, if_neg (fun q => by have := h _ q; omega)]
    exact ih
theorem k_la_some {th : Nat → Bool} {b : Nat} : ∀ N, k_la th N = some b → th b = true ∧ b < N := by
  intro N
  induction N with
  | zero => intro h; cases h
  | succ N ih =>
    intro h
    simp only [k_la] at h
    split at h
    · cases h; rename_i h2; exact ⟨h2, by omega⟩
    · have := ih h; exact ⟨this.1, by omega⟩
theorem k_cl_ext {bs bs' : Nat → Option Nat} {M : Nat} (h : ∀ k, k < M → bs k = bs' k) : ∀ k, k < M → k_cl bs k = k_cl bs' k := by
  intro k
  induction k using Nat.strongRecOn with
  | ind k ih =>
    intro hk
    rw [k_cl, k_cl, ← h k hk]
    cases hb : bs k with
    | none => rfl
    | some b =>
      by_cases hlt : b < k
      · simp only [dif_pos hlt, ih b hlt (by omega)]
      · simp only [dif_neg hlt]
theorem k_nd_ext {th P P' : Nat → Bool} {bs bs' : Nat → Option Nat} {M : Nat} (hb : ∀ k, k < M → bs k = bs' k) (hP : ∀ k, k < M → (th k && P k) = P' k) : ∀ i, i ≤ M → ∀ j, k_nd th P bs i j = k_nd (fun _ => true) P' bs' i j := by
  intro i
  induction i with
  | zero => intro _ j; rfl
  | succ i ih =>
    intro hi j
    simp only [k_nd]
    rw [ih (by omega) j, hP i (by omega), k_cl_ext hb i (by omega), Bool.true_and]
theorem k_nd_60 {th P : Nat → Bool} {bs : Nat → Option Nat} {M : Nat} (h : ∀ j, th j = true → j < M) (N : Nat) (hM : M ≤ N) (j : Nat) : k_nd th P bs N j = k_nd th P bs M j := by
  obtain ⟨d, rfl⟩ : ∃ d, N = M + d := ⟨N - M, by omega⟩
  clear hM
  induction d with
  | zero => rfl
  | succ d ih =>
    rw [show M + (d + 1) = (M + d) + 1 from rfl, k_nd_n (by rw [show th (M + d) = false from by cases h9 : th (M + d) with | false => rfl | true => have := h _ h9; omega]; rfl)]
    exact ih
theorem k_hl_60 {th : Nat → Bool} {bs : Nat → Option Nat} {M : Nat} (h : ∀ j, th j = true → j < M) (N : Nat) (hM : M ≤ N) (hd : Nat → Bool) : k_hl th bs N hd = k_hl th bs M hd := by
  obtain ⟨d, rfl⟩ : ∃ d, N = M + d := ⟨N - M, by omega⟩
  clear hM
  induction d with
  | zero => rfl
  | succ d ih =>
    rw [show M + (d + 1) = (M + d) + 1 from rfl, k_hl_n (fun q => by have := h _ q.1; omega)]
    exact ih
theorem k_hl_ext {th : Nat → Bool} {bs bs' : Nat → Option Nat} : ∀ n, (∀ k, k < n → bs k = bs' k) → ∀ hd hd' : Nat → Bool, (∀ j, th j = true → hd j = hd' j) → ∀ j, th j = true → k_hl th bs n hd j = k_hl th bs' n hd' j := by
  intro n
  induction n with
  | zero => intro _ hd hd' h j hj; exact h j hj
  | succ n ih =>
    intro hb hd hd' h j hj
    have hb2 := fun k (hk : k < n) => hb k (by omega)
    by_cases h1 : th n = true ∧ hd n = true
    · cases hbn : bs n with
      | none =>
        rw [k_hl_z hbn, k_hl_z ((hb n (by omega)).symm.trans hbn)]
        exact ih hb2 _ _ h j hj
      | some b =>
        rw [k_hl_y h1.1 h1.2 hbn, k_hl_y h1.1 ((h n h1.1).symm.trans h1.2) ((hb n (by omega)).symm.trans hbn)]
        refine ih hb2 _ _ (fun q hq => ?_) j hj
        by_cases hqb : q = b
        · subst hqb; rw [va_up_self, va_up_self]
        · rw [va_up_ne _ _ hqb, va_up_ne _ _ hqb]; exact h q hq
    · rw [k_hl_n h1, k_hl_n (fun q => h1 ⟨q.1, (h n q.1).trans q.2⟩)]
      exact ih hb2 _ _ h j hj
/-- what is held at the start stays held -/
theorem k_hl_mono {th : Nat → Bool} {bs : Nat → Option Nat} : ∀ n (hd : Nat → Bool) j, hd j = true → k_hl th bs n hd j = true := by
  intro n
  induction n with
  | zero => intro hd j h; exact h
  | succ n ih =>
    intro hd j h
    simp only [k_hl]
    refine ih _ j ?_
    split
    · cases hb : bs n with
      | none => exact h
      | some b =>
        show va_up hd b true j = true
        by_cases hj : j = b
        · subst hj; exact va_up_self _ _ _
        · rw [va_up_ne _ _ hj]; exact h
    · exact h
/-- the base of a held copy is held -/
theorem k_hl_base {th : Nat → Bool} {bs : Nat → Option Nat} (hd0 : ∀ k b, th k = true → bs k = some b → b < k) : ∀ n (hd : Nat → Bool) k b, k < n → th k = true → bs k = some b → k_hl th bs n hd k = true → k_hl th bs n hd b = true := by
  have high : ∀ n (hd : Nat → Bool) k, n ≤ k → k_hl th bs n hd k = hd k := by
    intro n
    induction n with
    | zero => intro hd k _; rfl
    | succ n ih =>
      intro hd k hk
      simp only [k_hl]
      rw [ih _ k (by omega)]
      split
      · rename_i h1
        cases hb : bs n with
        | none => rfl
        | some b =>
          have := hd0 n b h1.1 hb
          exact va_up_ne _ _ (by omega)
      · rfl
  intro n
  induction n with
  | zero => intro hd k b hk; omega
  | succ n ih =>
    intro hd k b hk ht hb h
    by_cases hkn : k = n
    · subst hkn
      by_cases h1 : hd k = true
      · rw [k_hl_y ht h1 hb]
        exact k_hl_mono _ _ _ (va_up_self _ _ _)
      · rw [k_hl_n (fun q => h1 q.2)] at h
        rw [high k hd k (Nat.le_refl _)] at h
        exact absurd h h1
    · simp only [k_hl] at h ⊢
      exact ih _ k b (by omega) ht hb h
