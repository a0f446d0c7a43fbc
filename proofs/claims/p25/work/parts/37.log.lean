/-! the log of changes, one longer -/
theorem k_log_up {lf : Nat → Nat} {lt : Nat → Int32} {n j : Nat} {v : Int32} : ∀ m, m ≤ n → ∀ f, k_log (va_up lf n j) (va_up lt n v) m f = k_log lf lt m f := by
  intro m
  induction m with
  | zero => intro _ f; rfl
  | succ m ih =>
    intro h f
    simp only [k_log]
    rw [va_up_ne _ _ (by omega), va_up_ne _ _ (by omega), ih (by omega) f]
theorem k_log_new {lf : Nat → Nat} {lt : Nat → Int32} {n j : Nat} {v : Int32} (f : Nat) : k_log (va_up lf n j) (va_up lt n v) (n + 1) f = if j = f then v else k_log lf lt n f := by
  simp only [k_log]
  rw [va_up_self, va_up_self, k_log_up n (Nat.le_refl _) f]
theorem k_chd_up {lf : Nat → Nat} {n j a : Nat} : ∀ m, m ≤ n → ∀ f, k_chd (va_up lf n j) a m f = k_chd lf a m f := by
  intro m
  induction m with
  | zero => intro _ f; rfl
  | succ m ih =>
    intro h f
    simp only [k_chd]
    rw [va_up_ne _ _ (by omega), ih (by omega) f]
theorem k_chd_new {lf ch : Nat → Nat} {n j : Nat} (hc : ∀ f, f < 10 → ch f ≤ n) (h : ∀ a f, a ≤ n → f < 10 → k_chd lf a n f = decide (a < ch f)) : ∀ a f, a ≤ n + 1 → f < 10 → k_chd (va_up lf n j) a (n + 1) f = decide (a < va_up ch j (n + 1) f) := by
  intro a f ha hf
  rcases Nat.lt_or_ge n a with h1 | h1
  · rw [k_chd_0 (by omega)]
    by_cases hj : f = j
    · subst hj; rw [va_up_self, decide_eq_false (by omega)]
    · rw [va_up_ne _ _ hj, decide_eq_false (by have := hc f hf; omega)]
  · simp only [k_chd]
    rw [k_chd_up n (Nat.le_refl _) f, h a f h1 hf, va_up_self, decide_eq_true h1, Bool.true_and]
    by_cases hj : f = j
    · subst hj
      rw [va_up_self, decide_eq_true (rfl : f = f), Bool.or_true, decide_eq_true (by omega)]
    · rw [va_up_ne _ _ hj, decide_eq_false (show ¬ j = f from fun q => hj q.symm), Bool.or_false]
theorem k_log_old {lf : Nat → Nat} {lt : Nat → Int32} {a : Nat} : ∀ n, a ≤ n → ∀ f, k_chd lf a n f = false → k_log lf lt n f = k_log lf lt a f := by
  intro n
  induction n with
  | zero => intro h f _; rw [show a = 0 by omega]
  | succ n ih =>
    intro h f hc
    rcases Nat.lt_or_ge n a with h1 | h1
    · rw [show a = n + 1 by omega]
    · simp only [k_chd, decide_eq_true h1, Bool.true_and, Bool.or_eq_false_iff] at hc
      simp only [k_log]
      rw [if_neg (fun q => absurd (decide_eq_true q) (by rw [hc.2]; decide))]
      exact ih h1 f hc.1
