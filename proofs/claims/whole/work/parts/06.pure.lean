/-! pure words: logs, counts, chains -/
theorem k_up_id {α : Type} (f : Nat → α) (k : Nat) : va_up f k (f k) = f := by
  funext j; by_cases h : j = k <;> simp [va_up, h]
/-- the content of a file behind the first m changes -/
def k_log (lf : Nat → Nat) (lt : Nat → Int32) : Nat → Nat → Int32
  | 0, _ => 0
  | m + 1, f => if lf m = f then lt m else k_log lf lt m f
/-- how many of the first n places are kept -/
def k_cn (K : Nat → Int32) : Nat → Nat
  | 0 => 0
  | n + 1 => k_cn K n + (if K n = -1 then 0 else 1)
abbrev k_cnt (K : Nat → Int32) : Nat := k_cn K 10
theorem k_cn_le (K : Nat → Int32) (n : Nat) : k_cn K n ≤ n := by
  induction n with
  | zero => exact Nat.le_refl _
  | succ n ih => simp only [k_cn]; split <;> omega
theorem k_cn_up_ge {K : Nat → Int32} {j n : Nat} {v : Int32} (h : n ≤ j) : k_cn (va_up K j v) n = k_cn K n := by
  induction n with
  | zero => rfl
  | succ n ih => simp only [k_cn, ih (by omega), va_up_ne K v (show n ≠ j by omega)]
theorem k_cn_new {K : Nat → Int32} {j n : Nat} {v : Int32} (hj : j < n) (hv : v ≠ -1) (hk : K j = -1) : k_cn (va_up K j v) n = k_cn K n + 1 := by
  induction n with
  | zero => omega
  | succ n ih =>
    by_cases h : j = n
    · subst h
      simp only [k_cn, k_cn_up_ge (Nat.le_refl j), va_up_self, if_neg hv, if_pos hk]
    · simp only [k_cn, ih (by omega), va_up_ne K v (show n ≠ j by omega)]
      omega
theorem k_cn_old {K : Nat → Int32} {j n : Nat} {v : Int32} (hv : v ≠ -1) (hk : K j ≠ -1) : k_cn (va_up K j v) n = k_cn K n := by
  induction n with
  | zero => rfl
  | succ n ih =>
    by_cases h : n = j
    · subst h
      simp only [k_cn, ih, va_up_self, if_neg hv, if_neg hk]
    · simp only [k_cn, ih, va_up_ne K v h]
theorem k_cnt_new {K : Nat → Int32} {j : Nat} {v : Int32} (hj : j < 10) (hv : v ≠ -1) (hk : K j = -1) : k_cnt (va_up K j v) = k_cnt K + 1 := k_cn_new hj hv hk
theorem k_cnt_old {K : Nat → Int32} {j : Nat} {v : Int32} (hv : v ≠ -1) (hk : K j ≠ -1) : k_cnt (va_up K j v) = k_cnt K := k_cn_old hv hk
/-- whether a file was changed among the changes a .. i - 1 -/
def k_chd (lf : Nat → Nat) (a : Nat) : Nat → Nat → Bool
  | 0, _ => false
  | i + 1, f => k_chd lf a i f || (decide (a ≤ i) && decide (lf i = f))
theorem k_chd_0 {lf : Nat → Nat} {a f : Nat} : ∀ {i : Nat}, i ≤ a → k_chd lf a i f = false := by
  intro i
  induction i with
  | zero => intro _; rfl
  | succ i ih => intro h; simp only [k_chd, ih (by omega), Bool.false_or]; simp; omega
theorem k_ka_step {K F O : Nat → Int32} {i : Nat} (h : ∀ f, K f = if f < i then F f else O f) : ∀ f, va_up K i (F i) f = if f < i + 1 then F f else O f := by
  intro f
  by_cases hf : f = i
  · subst hf; simp [va_up]
  · rw [va_up_ne _ _ hf, h]
    by_cases h2 : f < i
    · rw [if_pos h2, if_pos (by omega)]
    · rw [if_neg h2, if_neg (by omega)]
theorem k_kc_step {K F O : Nat → Int32} {lf : Nat → Nat} {a i : Nat} (hai : a ≤ i) (h : ∀ f, K f = if k_chd lf a i f = true then F f else O f) : ∀ f, va_up K (lf i) (F (lf i)) f = if k_chd lf a (i + 1) f = true then F f else O f := by
  intro f
  by_cases hf : f = lf i
  · subst hf; simp [va_up, k_chd, hai]
  · rw [va_up_ne _ _ hf, h]
    simp only [k_chd, show decide (lf i = f) = false from decide_eq_false (fun q => hf q.symm), Bool.and_false, Bool.or_false]
