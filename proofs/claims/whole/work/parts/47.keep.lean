namespace k_J
variable {t : k_T}
/-- neither the code nor the answer's place is in the relation -/
theorem sl (J : k_J t) {n : Nat} : k_J (set_m_l t n) := { J with }
theorem so (J : k_J t) {o : Nat → Int64} : k_J (set_l_o t o) := { J with }
theorem pass (J : k_J t) {w : Nat} (h : m_d t + w ≤ 360) : k_J (set_m_d (set_x_d t (x_d t + w)) (m_d t + w)) := { J with
  xd := by show x_d t + w = m_d t + w; rw [J.xd]
  d360 := h }
theorem rules (J : k_J t) {ra rb rc : Nat} (h1 : ra ≤ 30) (h2 : rb ≤ 20) (h3 : rc ≤ 12) : k_J (set_m_r3 (set_m_r2 (set_m_r1 (set_s_r3 (set_s_r2 (set_s_r1 t ra) rb) rc) ra) rb) rc) := { J with
  r1 := rfl
  r2 := rfl
  r3 := rfl
  r1b := h1
  r2b := Nat.le_trans h2 (by decide)
  r3b := Nat.le_trans h3 (by decide) }
end k_J
