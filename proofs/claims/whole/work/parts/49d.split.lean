/-- an operand within bounds is a number -/
theorem k_nat {z : Int32} {M : Nat} (h1 : ¬ z < 0) (h2 : z ≤ nI M) (hM : M < 2 ^ 31) : ∃ j, j ≤ M ∧ z = nI j := by
  have a1 : (0 : Int) ≤ z.toInt := by
    have := (not_congr Int32.lt_iff_toInt_lt).mp h1
    have h0 : (0 : Int32).toInt = 0 := rfl
    omega
  have a2 : z.toInt ≤ (M : Int) := by
    have h3 := Int32.le_iff_toInt_le.mp h2
    rw [nI_toInt hM] at h3
    exact h3
  refine ⟨z.toInt.toNat, by omega, ?_⟩
  apply Int32.toInt_inj.mp
  rw [nI_toInt (by omega)]
  omega
/-- below, a number up to M, or above -/
theorem k_split (z : Int32) {M : Nat} (hM : M < 2 ^ 31) : z < 0 ∨ nI M < z ∨ ∃ j, j ≤ M ∧ z = nI j := by
  by_cases h1 : z < 0
  · exact Or.inl h1
  · by_cases h2 : nI M < z
    · exact Or.inr (Or.inl h2)
    · exact Or.inr (Or.inr (k_nat h1 (Int32.not_lt.mp h2) hM))
