theorem k_mu {α : Type} {f g : Nat → α} {n : Nat} {v w : α} (h : ∀ k, k < n → f k = g k) (hv : v = w) : ∀ k, k < n + 1 → va_up f n v k = va_up g n w k := by
  intro k hk
  by_cases h1 : k = n
  · subst h1; rw [va_up_self, va_up_self, hv]
  · rw [va_up_ne _ _ h1, va_up_ne _ _ h1]; exact h k (by omega)
theorem k_mp {α : Type} {f : Nat → α} {n : Nat} {v : α} {P : Nat → α → Prop} (h : ∀ k, k < n → P k (f k)) (hv : P n v) : ∀ k, k < n + 1 → P k (va_up f n v k) := by
  intro k hk
  by_cases h1 : k = n
  · subst h1; rw [va_up_self]; exact hv
  · rw [va_up_ne _ _ h1]; exact h k (by omega)
theorem k_KN_lt {M k f : Nat} {p : Nat → Bool} {c K : Nat → Int32} (h : k < M) (hf : f < 10) : k_KN M p c K 10 (10 * k + f) = K (10 * k + f) := by
  rw [k_KN, if_neg (by omega)]
theorem k_KN_at {M f : Nat} {p : Nat → Bool} {c K : Nat → Int32} (hf : f < 10) : k_KN M p c K 10 (10 * M + f) = if p f = true then c f else -1 := by
  rw [k_KN, if_pos (show 10 * M ≤ 10 * M + f ∧ 10 * M + f < 10 * M + 10 by omega), show 10 * M + f - 10 * M = f by omega]
theorem k_fk_ext {K K2 : Nat → Nat → Int32} {f : Nat} : ∀ l : List Nat, (∀ j ∈ l, K j f = K2 j f) → k_fk K f l = k_fk K2 f l := by
  intro l
  induction l with
  | nil => intro _; rfl
  | cons a l ih => intro h; simp only [k_fk, ih (fun j hj => h j (List.mem_cons_of_mem _ hj)), h a List.mem_cons_self]
/-- the chain of the copies ahead of a new one is as it was -/
theorem k_cl_old {bs : Nat → Option Nat} {n k : Nat} {bo : Option Nat} (h : k < n) : k_cl (va_up bs n bo) k = k_cl bs k := k_cl_ext (M := n) (fun j hj => va_up_ne _ _ (by omega)) k h
theorem k_fk_old {M k f : Nat} {p : Nat → Bool} {c K : Nat → Int32} {bs : Nat → Option Nat} {bo : Option Nat} (h : k < M) (hf : f < 10) : k_fk (fun k f => k_KN M p c K 10 (10 * k + f)) f (k_cl (va_up bs M bo) k) = k_fk (fun k f => K (10 * k + f)) f (k_cl bs k) := by
  rw [k_cl_old h]
  exact k_fk_ext _ (fun j hj => k_KN_lt (by have := k_cl_le k j hj; omega) hf)
theorem k_fk_new {M f : Nat} {p : Nat → Bool} {c K : Nat → Int32} {bs : Nat → Option Nat} {bo : Option Nat} (hbo : ∀ b, bo = some b → b < M) (hf : f < 10) : k_fk (fun k f => k_KN M p c K 10 (10 * k + f)) f (k_cl (va_up bs M bo) M) = if (if p f = true then c f else -1) = -1 then k_fk (fun k f => K (10 * k + f)) f (k_clo bs bo) else (if p f = true then c f else -1) := by
  cases hb : bo with
  | none => rw [k_cl_none (va_up_self _ _ _), k_fk, k_KN_at hf]; rfl
  | some b =>
    have hlt := hbo b hb
    rw [k_cl_cons (b := b) (va_up_self _ _ _) hlt, k_fk, k_KN_at hf, k_fk_old hlt hf]
    rfl
