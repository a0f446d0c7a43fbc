abbrev k_TF : Type := (Nat → Int32) × (Nat → Nat) × (Nat → Int32) × (Nat) × (Nat)
abbrev k_TS : Type := (Nat → Bool) × (Nat) × (Nat) × (Nat) × (Nat) × (Nat → Nat)
abbrev k_TO : Type := (Nat) × (Nat → Nat) × (Nat → Option Nat) × (Nat → Nat) × (Nat → Nat → Int32) × (Nat → Nat) × (Nat → Bool) × (Nat → Bool) × (Nat → Bool) × (Nat → Bool) × (Nat → Bool)
abbrev k_TM : Type := (Nat → Int32) × (Nat → Nat) × (Nat) × (Nat) × (Nat → Nat) × (Nat → Option Nat) × (Nat → Nat) × (Nat → Nat) × (Nat → Int32)
abbrev k_TN : Type := (Nat → Bool) × (Nat → Bool) × (Nat → Bool) × (Nat) × (Nat) × (Nat) × (Nat) × (Nat → Bool) × (Nat → Bool) × (Nat → Bool) × (Nat → Nat) × (Nat)
abbrev k_TZ : Type := (Nat → Int64)
abbrev k_T : Type := k_TF × k_TS × k_TO × k_TM × k_TN × k_TZ
abbrev f_c (t : k_T) : Nat → Int32 := t.1.1
abbrev set_f_c (t : k_T) (v : Nat → Int32) : k_T := ((v, t.1.2.1, t.1.2.2.1, t.1.2.2.2.1, t.1.2.2.2.2), t.2.1, t.2.2.1, t.2.2.2.1, t.2.2.2.2.1, t.2.2.2.2.2)
abbrev f_lf (t : k_T) : Nat → Nat := t.1.2.1
abbrev set_f_lf (t : k_T) (v : Nat → Nat) : k_T := ((t.1.1, v, t.1.2.2.1, t.1.2.2.2.1, t.1.2.2.2.2), t.2.1, t.2.2.1, t.2.2.2.1, t.2.2.2.2.1, t.2.2.2.2.2)
abbrev f_lt (t : k_T) : Nat → Int32 := t.1.2.2.1
abbrev set_f_lt (t : k_T) (v : Nat → Int32) : k_T := ((t.1.1, t.1.2.1, v, t.1.2.2.2.1, t.1.2.2.2.2), t.2.1, t.2.2.1, t.2.2.2.1, t.2.2.2.2.1, t.2.2.2.2.2)
abbrev f_n (t : k_T) : Nat := t.1.2.2.2.1
abbrev set_f_n (t : k_T) (v : Nat) : k_T := ((t.1.1, t.1.2.1, t.1.2.2.1, v, t.1.2.2.2.2), t.2.1, t.2.2.1, t.2.2.2.1, t.2.2.2.2.1, t.2.2.2.2.2)
abbrev x_d (t : k_T) : Nat := t.1.2.2.2.2
abbrev set_x_d (t : k_T) (v : Nat) : k_T := ((t.1.1, t.1.2.1, t.1.2.2.1, t.1.2.2.2.1, v), t.2.1, t.2.2.1, t.2.2.2.1, t.2.2.2.2.1, t.2.2.2.2.2)
abbrev s_th (t : k_T) : Nat → Bool := t.2.1.1
abbrev set_s_th (t : k_T) (v : Nat → Bool) : k_T := (t.1, (v, t.2.1.2.1, t.2.1.2.2.1, t.2.1.2.2.2.1, t.2.1.2.2.2.2.1, t.2.1.2.2.2.2.2), t.2.2.1, t.2.2.2.1, t.2.2.2.2.1, t.2.2.2.2.2)
abbrev s_md (t : k_T) : Nat := t.2.1.2.1
abbrev set_s_md (t : k_T) (v : Nat) : k_T := (t.1, (t.2.1.1, v, t.2.1.2.2.1, t.2.1.2.2.2.1, t.2.1.2.2.2.2.1, t.2.1.2.2.2.2.2), t.2.2.1, t.2.2.2.1, t.2.2.2.2.1, t.2.2.2.2.2)
abbrev s_r1 (t : k_T) : Nat := t.2.1.2.2.1
abbrev set_s_r1 (t : k_T) (v : Nat) : k_T := (t.1, (t.2.1.1, t.2.1.2.1, v, t.2.1.2.2.2.1, t.2.1.2.2.2.2.1, t.2.1.2.2.2.2.2), t.2.2.1, t.2.2.2.1, t.2.2.2.2.1, t.2.2.2.2.2)
abbrev s_r2 (t : k_T) : Nat := t.2.1.2.2.2.1
abbrev set_s_r2 (t : k_T) (v : Nat) : k_T := (t.1, (t.2.1.1, t.2.1.2.1, t.2.1.2.2.1, v, t.2.1.2.2.2.2.1, t.2.1.2.2.2.2.2), t.2.2.1, t.2.2.2.1, t.2.2.2.2.1, t.2.2.2.2.2)
abbrev s_r3 (t : k_T) : Nat := t.2.1.2.2.2.2.1
abbrev set_s_r3 (t : k_T) (v : Nat) : k_T := (t.1, (t.2.1.1, t.2.1.2.1, t.2.1.2.2.1, t.2.1.2.2.2.1, v, t.2.1.2.2.2.2.2), t.2.2.1, t.2.2.2.1, t.2.2.2.2.1, t.2.2.2.2.2)
abbrev r_p (t : k_T) : Nat → Nat := t.2.1.2.2.2.2.2
abbrev set_r_p (t : k_T) (v : Nat → Nat) : k_T := (t.1, (t.2.1.1, t.2.1.2.1, t.2.1.2.2.1, t.2.1.2.2.2.1, t.2.1.2.2.2.2.1, v), t.2.2.1, t.2.2.2.1, t.2.2.2.2.1, t.2.2.2.2.2)
abbrev o_n (t : k_T) : Nat := t.2.2.1.1
abbrev set_o_n (t : k_T) (v : Nat) : k_T := (t.1, t.2.1, (v, t.2.2.1.2.1, t.2.2.1.2.2.1, t.2.2.1.2.2.2.1, t.2.2.1.2.2.2.2.1, t.2.2.1.2.2.2.2.2.1, t.2.2.1.2.2.2.2.2.2.1, t.2.2.1.2.2.2.2.2.2.2.1, t.2.2.1.2.2.2.2.2.2.2.2.1, t.2.2.1.2.2.2.2.2.2.2.2.2.1, t.2.2.1.2.2.2.2.2.2.2.2.2.2), t.2.2.2.1, t.2.2.2.2.1, t.2.2.2.2.2)
abbrev o_on (t : k_T) : Nat → Nat := t.2.2.1.2.1
abbrev set_o_on (t : k_T) (v : Nat → Nat) : k_T := (t.1, t.2.1, (t.2.2.1.1, v, t.2.2.1.2.2.1, t.2.2.1.2.2.2.1, t.2.2.1.2.2.2.2.1, t.2.2.1.2.2.2.2.2.1, t.2.2.1.2.2.2.2.2.2.1, t.2.2.1.2.2.2.2.2.2.2.1, t.2.2.1.2.2.2.2.2.2.2.2.1, t.2.2.1.2.2.2.2.2.2.2.2.2.1, t.2.2.1.2.2.2.2.2.2.2.2.2.2), t.2.2.2.1, t.2.2.2.2.1, t.2.2.2.2.2)
abbrev o_b (t : k_T) : Nat → Option Nat := t.2.2.1.2.2.1
abbrev set_o_b (t : k_T) (v : Nat → Option Nat) : k_T := (t.1, t.2.1, (t.2.2.1.1, t.2.2.1.2.1, v, t.2.2.1.2.2.2.1, t.2.2.1.2.2.2.2.1, t.2.2.1.2.2.2.2.2.1, t.2.2.1.2.2.2.2.2.2.1, t.2.2.1.2.2.2.2.2.2.2.1, t.2.2.1.2.2.2.2.2.2.2.2.1, t.2.2.1.2.2.2.2.2.2.2.2.2.1, t.2.2.1.2.2.2.2.2.2.2.2.2.2), t.2.2.2.1, t.2.2.2.2.1, t.2.2.2.2.2)
abbrev o_ca (t : k_T) : Nat → Nat := t.2.2.1.2.2.2.1
abbrev set_o_ca (t : k_T) (v : Nat → Nat) : k_T := (t.1, t.2.1, (t.2.2.1.1, t.2.2.1.2.1, t.2.2.1.2.2.1, v, t.2.2.1.2.2.2.2.1, t.2.2.1.2.2.2.2.2.1, t.2.2.1.2.2.2.2.2.2.1, t.2.2.1.2.2.2.2.2.2.2.1, t.2.2.1.2.2.2.2.2.2.2.2.1, t.2.2.1.2.2.2.2.2.2.2.2.2.1, t.2.2.1.2.2.2.2.2.2.2.2.2.2), t.2.2.2.1, t.2.2.2.2.1, t.2.2.2.2.2)
abbrev o_k (t : k_T) : Nat → Nat → Int32 := t.2.2.1.2.2.2.2.1
abbrev set_o_k (t : k_T) (v : Nat → Nat → Int32) : k_T := (t.1, t.2.1, (t.2.2.1.1, t.2.2.1.2.1, t.2.2.1.2.2.1, t.2.2.1.2.2.2.1, v, t.2.2.1.2.2.2.2.2.1, t.2.2.1.2.2.2.2.2.2.1, t.2.2.1.2.2.2.2.2.2.2.1, t.2.2.1.2.2.2.2.2.2.2.2.1, t.2.2.1.2.2.2.2.2.2.2.2.2.1, t.2.2.1.2.2.2.2.2.2.2.2.2.2), t.2.2.2.1, t.2.2.2.2.1, t.2.2.2.2.2)
abbrev o_kc (t : k_T) : Nat → Nat := t.2.2.1.2.2.2.2.2.1
abbrev set_o_kc (t : k_T) (v : Nat → Nat) : k_T := (t.1, t.2.1, (t.2.2.1.1, t.2.2.1.2.1, t.2.2.1.2.2.1, t.2.2.1.2.2.2.1, t.2.2.1.2.2.2.2.1, v, t.2.2.1.2.2.2.2.2.2.1, t.2.2.1.2.2.2.2.2.2.2.1, t.2.2.1.2.2.2.2.2.2.2.2.1, t.2.2.1.2.2.2.2.2.2.2.2.2.1, t.2.2.1.2.2.2.2.2.2.2.2.2.2), t.2.2.2.1, t.2.2.2.2.1, t.2.2.2.2.2)
abbrev o_dm (t : k_T) : Nat → Bool := t.2.2.1.2.2.2.2.2.2.1
abbrev set_o_dm (t : k_T) (v : Nat → Bool) : k_T := (t.1, t.2.1, (t.2.2.1.1, t.2.2.1.2.1, t.2.2.1.2.2.1, t.2.2.1.2.2.2.1, t.2.2.1.2.2.2.2.1, t.2.2.1.2.2.2.2.2.1, v, t.2.2.1.2.2.2.2.2.2.2.1, t.2.2.1.2.2.2.2.2.2.2.2.1, t.2.2.1.2.2.2.2.2.2.2.2.2.1, t.2.2.1.2.2.2.2.2.2.2.2.2.2), t.2.2.2.1, t.2.2.2.2.1, t.2.2.2.2.2)
abbrev o_pv (t : k_T) : Nat → Bool := t.2.2.1.2.2.2.2.2.2.2.1
abbrev set_o_pv (t : k_T) (v : Nat → Bool) : k_T := (t.1, t.2.1, (t.2.2.1.1, t.2.2.1.2.1, t.2.2.1.2.2.1, t.2.2.1.2.2.2.1, t.2.2.1.2.2.2.2.1, t.2.2.1.2.2.2.2.2.1, t.2.2.1.2.2.2.2.2.2.1, v, t.2.2.1.2.2.2.2.2.2.2.2.1, t.2.2.1.2.2.2.2.2.2.2.2.2.1, t.2.2.1.2.2.2.2.2.2.2.2.2.2), t.2.2.2.1, t.2.2.2.2.1, t.2.2.2.2.2)
abbrev o_pm (t : k_T) : Nat → Bool := t.2.2.1.2.2.2.2.2.2.2.2.1
abbrev set_o_pm (t : k_T) (v : Nat → Bool) : k_T := (t.1, t.2.1, (t.2.2.1.1, t.2.2.1.2.1, t.2.2.1.2.2.1, t.2.2.1.2.2.2.1, t.2.2.1.2.2.2.2.1, t.2.2.1.2.2.2.2.2.1, t.2.2.1.2.2.2.2.2.2.1, t.2.2.1.2.2.2.2.2.2.2.1, v, t.2.2.1.2.2.2.2.2.2.2.2.2.1, t.2.2.1.2.2.2.2.2.2.2.2.2.2), t.2.2.2.1, t.2.2.2.2.1, t.2.2.2.2.2)
abbrev o_nd (t : k_T) : Nat → Bool := t.2.2.1.2.2.2.2.2.2.2.2.2.1
abbrev set_o_nd (t : k_T) (v : Nat → Bool) : k_T := (t.1, t.2.1, (t.2.2.1.1, t.2.2.1.2.1, t.2.2.1.2.2.1, t.2.2.1.2.2.2.1, t.2.2.1.2.2.2.2.1, t.2.2.1.2.2.2.2.2.1, t.2.2.1.2.2.2.2.2.2.1, t.2.2.1.2.2.2.2.2.2.2.1, t.2.2.1.2.2.2.2.2.2.2.2.1, v, t.2.2.1.2.2.2.2.2.2.2.2.2.2), t.2.2.2.1, t.2.2.2.2.1, t.2.2.2.2.2)
abbrev o_hd (t : k_T) : Nat → Bool := t.2.2.1.2.2.2.2.2.2.2.2.2.2
abbrev set_o_hd (t : k_T) (v : Nat → Bool) : k_T := (t.1, t.2.1, (t.2.2.1.1, t.2.2.1.2.1, t.2.2.1.2.2.1, t.2.2.1.2.2.2.1, t.2.2.1.2.2.2.2.1, t.2.2.1.2.2.2.2.2.1, t.2.2.1.2.2.2.2.2.2.1, t.2.2.1.2.2.2.2.2.2.2.1, t.2.2.1.2.2.2.2.2.2.2.2.1, t.2.2.1.2.2.2.2.2.2.2.2.2.1, v), t.2.2.2.1, t.2.2.2.2.1, t.2.2.2.2.2)
abbrev m_c (t : k_T) : Nat → Int32 := t.2.2.2.1.1
abbrev set_m_c (t : k_T) (v : Nat → Int32) : k_T := (t.1, t.2.1, t.2.2.1, (v, t.2.2.2.1.2.1, t.2.2.2.1.2.2.1, t.2.2.2.1.2.2.2.1, t.2.2.2.1.2.2.2.2.1, t.2.2.2.1.2.2.2.2.2.1, t.2.2.2.1.2.2.2.2.2.2.1, t.2.2.2.1.2.2.2.2.2.2.2.1, t.2.2.2.1.2.2.2.2.2.2.2.2), t.2.2.2.2.1, t.2.2.2.2.2)
abbrev m_ch (t : k_T) : Nat → Nat := t.2.2.2.1.2.1
abbrev set_m_ch (t : k_T) (v : Nat → Nat) : k_T := (t.1, t.2.1, t.2.2.1, (t.2.2.2.1.1, v, t.2.2.2.1.2.2.1, t.2.2.2.1.2.2.2.1, t.2.2.2.1.2.2.2.2.1, t.2.2.2.1.2.2.2.2.2.1, t.2.2.2.1.2.2.2.2.2.2.1, t.2.2.2.1.2.2.2.2.2.2.2.1, t.2.2.2.1.2.2.2.2.2.2.2.2), t.2.2.2.2.1, t.2.2.2.2.2)
abbrev m_n (t : k_T) : Nat := t.2.2.2.1.2.2.1
abbrev set_m_n (t : k_T) (v : Nat) : k_T := (t.1, t.2.1, t.2.2.1, (t.2.2.2.1.1, t.2.2.2.1.2.1, v, t.2.2.2.1.2.2.2.1, t.2.2.2.1.2.2.2.2.1, t.2.2.2.1.2.2.2.2.2.1, t.2.2.2.1.2.2.2.2.2.2.1, t.2.2.2.1.2.2.2.2.2.2.2.1, t.2.2.2.1.2.2.2.2.2.2.2.2), t.2.2.2.2.1, t.2.2.2.2.2)
abbrev m_d (t : k_T) : Nat := t.2.2.2.1.2.2.2.1
abbrev set_m_d (t : k_T) (v : Nat) : k_T := (t.1, t.2.1, t.2.2.1, (t.2.2.2.1.1, t.2.2.2.1.2.1, t.2.2.2.1.2.2.1, v, t.2.2.2.1.2.2.2.2.1, t.2.2.2.1.2.2.2.2.2.1, t.2.2.2.1.2.2.2.2.2.2.1, t.2.2.2.1.2.2.2.2.2.2.2.1, t.2.2.2.1.2.2.2.2.2.2.2.2), t.2.2.2.2.1, t.2.2.2.2.2)
abbrev m_on (t : k_T) : Nat → Nat := t.2.2.2.1.2.2.2.2.1
abbrev set_m_on (t : k_T) (v : Nat → Nat) : k_T := (t.1, t.2.1, t.2.2.1, (t.2.2.2.1.1, t.2.2.2.1.2.1, t.2.2.2.1.2.2.1, t.2.2.2.1.2.2.2.1, v, t.2.2.2.1.2.2.2.2.2.1, t.2.2.2.1.2.2.2.2.2.2.1, t.2.2.2.1.2.2.2.2.2.2.2.1, t.2.2.2.1.2.2.2.2.2.2.2.2), t.2.2.2.2.1, t.2.2.2.2.2)
abbrev m_b (t : k_T) : Nat → Option Nat := t.2.2.2.1.2.2.2.2.2.1
abbrev set_m_b (t : k_T) (v : Nat → Option Nat) : k_T := (t.1, t.2.1, t.2.2.1, (t.2.2.2.1.1, t.2.2.2.1.2.1, t.2.2.2.1.2.2.1, t.2.2.2.1.2.2.2.1, t.2.2.2.1.2.2.2.2.1, v, t.2.2.2.1.2.2.2.2.2.2.1, t.2.2.2.1.2.2.2.2.2.2.2.1, t.2.2.2.1.2.2.2.2.2.2.2.2), t.2.2.2.2.1, t.2.2.2.2.2)
abbrev m_sz (t : k_T) : Nat → Nat := t.2.2.2.1.2.2.2.2.2.2.1
abbrev set_m_sz (t : k_T) (v : Nat → Nat) : k_T := (t.1, t.2.1, t.2.2.1, (t.2.2.2.1.1, t.2.2.2.1.2.1, t.2.2.2.1.2.2.1, t.2.2.2.1.2.2.2.1, t.2.2.2.1.2.2.2.2.1, t.2.2.2.1.2.2.2.2.2.1, v, t.2.2.2.1.2.2.2.2.2.2.2.1, t.2.2.2.1.2.2.2.2.2.2.2.2), t.2.2.2.2.1, t.2.2.2.2.2)
abbrev m_at (t : k_T) : Nat → Nat := t.2.2.2.1.2.2.2.2.2.2.2.1
abbrev set_m_at (t : k_T) (v : Nat → Nat) : k_T := (t.1, t.2.1, t.2.2.1, (t.2.2.2.1.1, t.2.2.2.1.2.1, t.2.2.2.1.2.2.1, t.2.2.2.1.2.2.2.1, t.2.2.2.1.2.2.2.2.1, t.2.2.2.1.2.2.2.2.2.1, t.2.2.2.1.2.2.2.2.2.2.1, v, t.2.2.2.1.2.2.2.2.2.2.2.2), t.2.2.2.2.1, t.2.2.2.2.2)
abbrev m_k (t : k_T) : Nat → Int32 := t.2.2.2.1.2.2.2.2.2.2.2.2
abbrev set_m_k (t : k_T) (v : Nat → Int32) : k_T := (t.1, t.2.1, t.2.2.1, (t.2.2.2.1.1, t.2.2.2.1.2.1, t.2.2.2.1.2.2.1, t.2.2.2.1.2.2.2.1, t.2.2.2.1.2.2.2.2.1, t.2.2.2.1.2.2.2.2.2.1, t.2.2.2.1.2.2.2.2.2.2.1, t.2.2.2.1.2.2.2.2.2.2.2.1, v), t.2.2.2.2.1, t.2.2.2.2.2)
abbrev m_th (t : k_T) : Nat → Bool := t.2.2.2.2.1.1
abbrev set_m_th (t : k_T) (v : Nat → Bool) : k_T := (t.1, t.2.1, t.2.2.1, t.2.2.2.1, (v, t.2.2.2.2.1.2.1, t.2.2.2.2.1.2.2.1, t.2.2.2.2.1.2.2.2.1, t.2.2.2.2.1.2.2.2.2.1, t.2.2.2.2.1.2.2.2.2.2.1, t.2.2.2.2.1.2.2.2.2.2.2.1, t.2.2.2.2.1.2.2.2.2.2.2.2.1, t.2.2.2.2.1.2.2.2.2.2.2.2.2.1, t.2.2.2.2.1.2.2.2.2.2.2.2.2.2.1, t.2.2.2.2.1.2.2.2.2.2.2.2.2.2.2.1, t.2.2.2.2.1.2.2.2.2.2.2.2.2.2.2.2), t.2.2.2.2.2)
abbrev m_dm (t : k_T) : Nat → Bool := t.2.2.2.2.1.2.1
abbrev set_m_dm (t : k_T) (v : Nat → Bool) : k_T := (t.1, t.2.1, t.2.2.1, t.2.2.2.1, (t.2.2.2.2.1.1, v, t.2.2.2.2.1.2.2.1, t.2.2.2.2.1.2.2.2.1, t.2.2.2.2.1.2.2.2.2.1, t.2.2.2.2.1.2.2.2.2.2.1, t.2.2.2.2.1.2.2.2.2.2.2.1, t.2.2.2.2.1.2.2.2.2.2.2.2.1, t.2.2.2.2.1.2.2.2.2.2.2.2.2.1, t.2.2.2.2.1.2.2.2.2.2.2.2.2.2.1, t.2.2.2.2.1.2.2.2.2.2.2.2.2.2.2.1, t.2.2.2.2.1.2.2.2.2.2.2.2.2.2.2.2), t.2.2.2.2.2)
abbrev m_pv (t : k_T) : Nat → Bool := t.2.2.2.2.1.2.2.1
abbrev set_m_pv (t : k_T) (v : Nat → Bool) : k_T := (t.1, t.2.1, t.2.2.1, t.2.2.2.1, (t.2.2.2.2.1.1, t.2.2.2.2.1.2.1, v, t.2.2.2.2.1.2.2.2.1, t.2.2.2.2.1.2.2.2.2.1, t.2.2.2.2.1.2.2.2.2.2.1, t.2.2.2.2.1.2.2.2.2.2.2.1, t.2.2.2.2.1.2.2.2.2.2.2.2.1, t.2.2.2.2.1.2.2.2.2.2.2.2.2.1, t.2.2.2.2.1.2.2.2.2.2.2.2.2.2.1, t.2.2.2.2.1.2.2.2.2.2.2.2.2.2.2.1, t.2.2.2.2.1.2.2.2.2.2.2.2.2.2.2.2), t.2.2.2.2.2)
abbrev m_md (t : k_T) : Nat := t.2.2.2.2.1.2.2.2.1
abbrev set_m_md (t : k_T) (v : Nat) : k_T := (t.1, t.2.1, t.2.2.1, t.2.2.2.1, (t.2.2.2.2.1.1, t.2.2.2.2.1.2.1, t.2.2.2.2.1.2.2.1, v, t.2.2.2.2.1.2.2.2.2.1, t.2.2.2.2.1.2.2.2.2.2.1, t.2.2.2.2.1.2.2.2.2.2.2.1, t.2.2.2.2.1.2.2.2.2.2.2.2.1, t.2.2.2.2.1.2.2.2.2.2.2.2.2.1, t.2.2.2.2.1.2.2.2.2.2.2.2.2.2.1, t.2.2.2.2.1.2.2.2.2.2.2.2.2.2.2.1, t.2.2.2.2.1.2.2.2.2.2.2.2.2.2.2.2), t.2.2.2.2.2)
abbrev m_r1 (t : k_T) : Nat := t.2.2.2.2.1.2.2.2.2.1
abbrev set_m_r1 (t : k_T) (v : Nat) : k_T := (t.1, t.2.1, t.2.2.1, t.2.2.2.1, (t.2.2.2.2.1.1, t.2.2.2.2.1.2.1, t.2.2.2.2.1.2.2.1, t.2.2.2.2.1.2.2.2.1, v, t.2.2.2.2.1.2.2.2.2.2.1, t.2.2.2.2.1.2.2.2.2.2.2.1, t.2.2.2.2.1.2.2.2.2.2.2.2.1, t.2.2.2.2.1.2.2.2.2.2.2.2.2.1, t.2.2.2.2.1.2.2.2.2.2.2.2.2.2.1, t.2.2.2.2.1.2.2.2.2.2.2.2.2.2.2.1, t.2.2.2.2.1.2.2.2.2.2.2.2.2.2.2.2), t.2.2.2.2.2)
abbrev m_r2 (t : k_T) : Nat := t.2.2.2.2.1.2.2.2.2.2.1
abbrev set_m_r2 (t : k_T) (v : Nat) : k_T := (t.1, t.2.1, t.2.2.1, t.2.2.2.1, (t.2.2.2.2.1.1, t.2.2.2.2.1.2.1, t.2.2.2.2.1.2.2.1, t.2.2.2.2.1.2.2.2.1, t.2.2.2.2.1.2.2.2.2.1, v, t.2.2.2.2.1.2.2.2.2.2.2.1, t.2.2.2.2.1.2.2.2.2.2.2.2.1, t.2.2.2.2.1.2.2.2.2.2.2.2.2.1, t.2.2.2.2.1.2.2.2.2.2.2.2.2.2.1, t.2.2.2.2.1.2.2.2.2.2.2.2.2.2.2.1, t.2.2.2.2.1.2.2.2.2.2.2.2.2.2.2.2), t.2.2.2.2.2)
abbrev m_r3 (t : k_T) : Nat := t.2.2.2.2.1.2.2.2.2.2.2.1
abbrev set_m_r3 (t : k_T) (v : Nat) : k_T := (t.1, t.2.1, t.2.2.1, t.2.2.2.1, (t.2.2.2.2.1.1, t.2.2.2.2.1.2.1, t.2.2.2.2.1.2.2.1, t.2.2.2.2.1.2.2.2.1, t.2.2.2.2.1.2.2.2.2.1, t.2.2.2.2.1.2.2.2.2.2.1, v, t.2.2.2.2.1.2.2.2.2.2.2.2.1, t.2.2.2.2.1.2.2.2.2.2.2.2.2.1, t.2.2.2.2.1.2.2.2.2.2.2.2.2.2.1, t.2.2.2.2.1.2.2.2.2.2.2.2.2.2.2.1, t.2.2.2.2.1.2.2.2.2.2.2.2.2.2.2.2), t.2.2.2.2.2)
abbrev m_pm (t : k_T) : Nat → Bool := t.2.2.2.2.1.2.2.2.2.2.2.2.1
abbrev set_m_pm (t : k_T) (v : Nat → Bool) : k_T := (t.1, t.2.1, t.2.2.1, t.2.2.2.1, (t.2.2.2.2.1.1, t.2.2.2.2.1.2.1, t.2.2.2.2.1.2.2.1, t.2.2.2.2.1.2.2.2.1, t.2.2.2.2.1.2.2.2.2.1, t.2.2.2.2.1.2.2.2.2.2.1, t.2.2.2.2.1.2.2.2.2.2.2.1, v, t.2.2.2.2.1.2.2.2.2.2.2.2.2.1, t.2.2.2.2.1.2.2.2.2.2.2.2.2.2.1, t.2.2.2.2.1.2.2.2.2.2.2.2.2.2.2.1, t.2.2.2.2.1.2.2.2.2.2.2.2.2.2.2.2), t.2.2.2.2.2)
abbrev m_nd (t : k_T) : Nat → Bool := t.2.2.2.2.1.2.2.2.2.2.2.2.2.1
abbrev set_m_nd (t : k_T) (v : Nat → Bool) : k_T := (t.1, t.2.1, t.2.2.1, t.2.2.2.1, (t.2.2.2.2.1.1, t.2.2.2.2.1.2.1, t.2.2.2.2.1.2.2.1, t.2.2.2.2.1.2.2.2.1, t.2.2.2.2.1.2.2.2.2.1, t.2.2.2.2.1.2.2.2.2.2.1, t.2.2.2.2.1.2.2.2.2.2.2.1, t.2.2.2.2.1.2.2.2.2.2.2.2.1, v, t.2.2.2.2.1.2.2.2.2.2.2.2.2.2.1, t.2.2.2.2.1.2.2.2.2.2.2.2.2.2.2.1, t.2.2.2.2.1.2.2.2.2.2.2.2.2.2.2.2), t.2.2.2.2.2)
abbrev m_ls (t : k_T) : Nat → Bool := t.2.2.2.2.1.2.2.2.2.2.2.2.2.2.1
abbrev set_m_ls (t : k_T) (v : Nat → Bool) : k_T := (t.1, t.2.1, t.2.2.1, t.2.2.2.1, (t.2.2.2.2.1.1, t.2.2.2.2.1.2.1, t.2.2.2.2.1.2.2.1, t.2.2.2.2.1.2.2.2.1, t.2.2.2.2.1.2.2.2.2.1, t.2.2.2.2.1.2.2.2.2.2.1, t.2.2.2.2.1.2.2.2.2.2.2.1, t.2.2.2.2.1.2.2.2.2.2.2.2.1, t.2.2.2.2.1.2.2.2.2.2.2.2.2.1, v, t.2.2.2.2.1.2.2.2.2.2.2.2.2.2.2.1, t.2.2.2.2.1.2.2.2.2.2.2.2.2.2.2.2), t.2.2.2.2.2)
abbrev m_rt (t : k_T) : Nat → Nat := t.2.2.2.2.1.2.2.2.2.2.2.2.2.2.2.1
abbrev set_m_rt (t : k_T) (v : Nat → Nat) : k_T := (t.1, t.2.1, t.2.2.1, t.2.2.2.1, (t.2.2.2.2.1.1, t.2.2.2.2.1.2.1, t.2.2.2.2.1.2.2.1, t.2.2.2.2.1.2.2.2.1, t.2.2.2.2.1.2.2.2.2.1, t.2.2.2.2.1.2.2.2.2.2.1, t.2.2.2.2.1.2.2.2.2.2.2.1, t.2.2.2.2.1.2.2.2.2.2.2.2.1, t.2.2.2.2.1.2.2.2.2.2.2.2.2.1, t.2.2.2.2.1.2.2.2.2.2.2.2.2.2.1, v, t.2.2.2.2.1.2.2.2.2.2.2.2.2.2.2.2), t.2.2.2.2.2)
abbrev m_l (t : k_T) : Nat := t.2.2.2.2.1.2.2.2.2.2.2.2.2.2.2.2
abbrev set_m_l (t : k_T) (v : Nat) : k_T := (t.1, t.2.1, t.2.2.1, t.2.2.2.1, (t.2.2.2.2.1.1, t.2.2.2.2.1.2.1, t.2.2.2.2.1.2.2.1, t.2.2.2.2.1.2.2.2.1, t.2.2.2.2.1.2.2.2.2.1, t.2.2.2.2.1.2.2.2.2.2.1, t.2.2.2.2.1.2.2.2.2.2.2.1, t.2.2.2.2.1.2.2.2.2.2.2.2.1, t.2.2.2.2.1.2.2.2.2.2.2.2.2.1, t.2.2.2.2.1.2.2.2.2.2.2.2.2.2.1, t.2.2.2.2.1.2.2.2.2.2.2.2.2.2.2.1, v), t.2.2.2.2.2)
abbrev l_o (t : k_T) : Nat → Int64 := t.2.2.2.2.2
abbrev set_l_o (t : k_T) (v : Nat → Int64) : k_T := (t.1, t.2.1, t.2.2.1, t.2.2.2.1, t.2.2.2.2.1, v)
def kb (b : Bool) : Int32 := match b with | true => 1 | false => 0
theorem kb_nar (b : Bool) : narrow .boolean (.int (kb b)) = .int (kb b) := by cases b <;> rfl
theorem kb_fit (b : Bool) : fits .boolean (.int (kb b)) = true := by cases b <;> rfl
theorem kb_t : kb true = 1 := rfl
theorem kb_f : kb false = 0 := rfl
theorem kb_0 {b : Bool} : kb b = 0 ↔ b = false := by cases b <;> decide
theorem kb_1 {b : Bool} : kb b = 1 ↔ b = true := by cases b <;> decide
def kO (o : Option Nat) : Int32 := match o with | none => -1 | some j => nI j
def k_f (b : Nat) (e : va_E) : Option va_E := match b with | 0 => some e | _ + 1 => none
def k_ct (g : k_g) (ad : k_AD) (t : k_T) : k_G := fun a b => match a with
  | 0 => k_f b (.inr (4, [.ref (ad 1 0), .ref (ad 5 0), .ref (ad 7 0), .int (nI (x_d t))]))
  | 1 => k_f b (.inr (1, [.ref (ad 2 0), .ref (ad 3 0), .ref (ad 4 0), .int (nI (f_n t))]))
  | 2 => k_f b (.inl (g.2.1 0, 10, .inl (f_c t)))
  | 3 => k_f b (.inl (g.2.1 0, 300, .inl (fun j => nI (f_lf t j))))
  | 4 => k_f b (.inl (g.2.1 0, 300, .inl (f_lt t)))
  | 5 => k_f b (.inr (3, [.ref (ad 6 0), .int (nI (s_md t)), .int (nI (s_r1 t)), .int (nI (s_r2 t)), .int (nI (s_r3 t))]))
  | 6 => k_f b (.inl (g.2.1 3, 60, .inr (.inr (.inr (.inr (fun j => if s_th t j = true then some (ad 25 j) else none))))))
  | 7 => k_f b (.inr (2, [.ref (ad 8 0)]))
  | 8 => k_f b (.inl (g.2.1 0, 365, .inl (fun j => nI (r_p t j))))
  | 9 => k_f b (.inr (5, [.ref (ad 10 0), .ref (ad 11 0), .int (nI (m_n t)), .int (nI (m_d t)), .ref (ad 12 0), .ref (ad 13 0), .ref (ad 14 0), .ref (ad 15 0), .ref (ad 16 0), .ref (ad 17 0), .ref (ad 18 0), .ref (ad 19 0), .int (nI (m_md t)), .int (nI (m_r1 t)), .int (nI (m_r2 t)), .int (nI (m_r3 t)), .ref (ad 20 0), .ref (ad 21 0), .ref (ad 22 0), .ref (ad 23 0), .int (nI (m_l t))]))
  | 10 => k_f b (.inl (g.2.1 0, 10, .inl (m_c t)))
  | 11 => k_f b (.inl (g.2.1 0, 10, .inl (fun j => nI (m_ch t j))))
  | 12 => k_f b (.inl (g.2.1 0, 60, .inl (fun j => nI (m_on t j))))
  | 13 => k_f b (.inl (g.2.1 0, 60, .inl (fun j => kO (m_b t j))))
  | 14 => k_f b (.inl (g.2.1 0, 60, .inl (fun j => nI (m_sz t j))))
  | 15 => k_f b (.inl (g.2.1 0, 60, .inl (fun j => nI (m_at t j))))
  | 16 => k_f b (.inl (g.2.1 0, 600, .inl (m_k t)))
  | 17 => k_f b (.inl (g.2.1 1, 60, .inl (fun j => kb (m_th t j))))
  | 18 => k_f b (.inl (g.2.1 1, 60, .inl (fun j => kb (m_dm t j))))
  | 19 => k_f b (.inl (g.2.1 1, 60, .inl (fun j => kb (m_pv t j))))
  | 20 => k_f b (.inl (g.2.1 1, 60, .inl (fun j => kb (m_pm t j))))
  | 21 => k_f b (.inl (g.2.1 1, 60, .inl (fun j => kb (m_nd t j))))
  | 22 => k_f b (.inl (g.2.1 1, 60, .inl (fun j => kb (m_ls t j))))
  | 23 => k_f b (.inl (g.2.1 0, 365, .inl (fun j => nI (m_rt t j))))
  | 24 => k_f b (.inl (g.2.1 2, 1, .inr (.inl (l_o t))))
  | 25 => if b < o_n t then some (.inr (0, [.int (nI b), .int (nI (o_on t b)), va_rf ((o_b t b).map (ad 25)), .int (nI (o_ca t b)), .ref (ad 26 b), .int (nI (o_kc t b)), .int (kb (o_dm t b)), .int (kb (o_pv t b)), .int (kb (o_pm t b)), .int (kb (o_nd t b)), .int (kb (o_hd t b))])) else none
  | 26 => if b < o_n t then some (.inl (g.2.1 0, 10, .inl (o_k t b))) else none
  | _ => none
abbrev k_H (g : k_g) (ad : k_AD) (t : k_T) (H : Heap) : Prop := k_Wd g (k_ct g ad t) ad H
theorem kc_0 (g : k_g) (ad : k_AD) (t : k_T) : k_ct g ad t 0 0 = some (.inr (4, [.ref (ad 1 0), .ref (ad 5 0), .ref (ad 7 0), .int (nI (x_d t))])) := rfl
theorem kc_1 (g : k_g) (ad : k_AD) (t : k_T) : k_ct g ad t 1 0 = some (.inr (1, [.ref (ad 2 0), .ref (ad 3 0), .ref (ad 4 0), .int (nI (f_n t))])) := rfl
theorem kc_2 (g : k_g) (ad : k_AD) (t : k_T) : k_ct g ad t 2 0 = some (.inl (g.2.1 0, 10, .inl (f_c t))) := rfl
theorem kc_3 (g : k_g) (ad : k_AD) (t : k_T) : k_ct g ad t 3 0 = some (.inl (g.2.1 0, 300, .inl (fun j => nI (f_lf t j)))) := rfl
theorem kc_4 (g : k_g) (ad : k_AD) (t : k_T) : k_ct g ad t 4 0 = some (.inl (g.2.1 0, 300, .inl (f_lt t))) := rfl
theorem kc_5 (g : k_g) (ad : k_AD) (t : k_T) : k_ct g ad t 5 0 = some (.inr (3, [.ref (ad 6 0), .int (nI (s_md t)), .int (nI (s_r1 t)), .int (nI (s_r2 t)), .int (nI (s_r3 t))])) := rfl
theorem kc_6 (g : k_g) (ad : k_AD) (t : k_T) : k_ct g ad t 6 0 = some (.inl (g.2.1 3, 60, .inr (.inr (.inr (.inr (fun j => if s_th t j = true then some (ad 25 j) else none)))))) := rfl
theorem kc_7 (g : k_g) (ad : k_AD) (t : k_T) : k_ct g ad t 7 0 = some (.inr (2, [.ref (ad 8 0)])) := rfl
theorem kc_8 (g : k_g) (ad : k_AD) (t : k_T) : k_ct g ad t 8 0 = some (.inl (g.2.1 0, 365, .inl (fun j => nI (r_p t j)))) := rfl
theorem kc_9 (g : k_g) (ad : k_AD) (t : k_T) : k_ct g ad t 9 0 = some (.inr (5, [.ref (ad 10 0), .ref (ad 11 0), .int (nI (m_n t)), .int (nI (m_d t)), .ref (ad 12 0), .ref (ad 13 0), .ref (ad 14 0), .ref (ad 15 0), .ref (ad 16 0), .ref (ad 17 0), .ref (ad 18 0), .ref (ad 19 0), .int (nI (m_md t)), .int (nI (m_r1 t)), .int (nI (m_r2 t)), .int (nI (m_r3 t)), .ref (ad 20 0), .ref (ad 21 0), .ref (ad 22 0), .ref (ad 23 0), .int (nI (m_l t))])) := rfl
theorem kc_10 (g : k_g) (ad : k_AD) (t : k_T) : k_ct g ad t 10 0 = some (.inl (g.2.1 0, 10, .inl (m_c t))) := rfl
theorem kc_11 (g : k_g) (ad : k_AD) (t : k_T) : k_ct g ad t 11 0 = some (.inl (g.2.1 0, 10, .inl (fun j => nI (m_ch t j)))) := rfl
theorem kc_12 (g : k_g) (ad : k_AD) (t : k_T) : k_ct g ad t 12 0 = some (.inl (g.2.1 0, 60, .inl (fun j => nI (m_on t j)))) := rfl
theorem kc_13 (g : k_g) (ad : k_AD) (t : k_T) : k_ct g ad t 13 0 = some (.inl (g.2.1 0, 60, .inl (fun j => kO (m_b t j)))) := rfl
theorem kc_14 (g : k_g) (ad : k_AD) (t : k_T) : k_ct g ad t 14 0 = some (.inl (g.2.1 0, 60, .inl (fun j => nI (m_sz t j)))) := rfl
theorem kc_15 (g : k_g) (ad : k_AD) (t : k_T) : k_ct g ad t 15 0 = some (.inl (g.2.1 0, 60, .inl (fun j => nI (m_at t j)))) := rfl
theorem kc_16 (g : k_g) (ad : k_AD) (t : k_T) : k_ct g ad t 16 0 = some (.inl (g.2.1 0, 600, .inl (m_k t))) := rfl
theorem kc_17 (g : k_g) (ad : k_AD) (t : k_T) : k_ct g ad t 17 0 = some (.inl (g.2.1 1, 60, .inl (fun j => kb (m_th t j)))) := rfl
theorem kc_18 (g : k_g) (ad : k_AD) (t : k_T) : k_ct g ad t 18 0 = some (.inl (g.2.1 1, 60, .inl (fun j => kb (m_dm t j)))) := rfl
theorem kc_19 (g : k_g) (ad : k_AD) (t : k_T) : k_ct g ad t 19 0 = some (.inl (g.2.1 1, 60, .inl (fun j => kb (m_pv t j)))) := rfl
theorem kc_20 (g : k_g) (ad : k_AD) (t : k_T) : k_ct g ad t 20 0 = some (.inl (g.2.1 1, 60, .inl (fun j => kb (m_pm t j)))) := rfl
theorem kc_21 (g : k_g) (ad : k_AD) (t : k_T) : k_ct g ad t 21 0 = some (.inl (g.2.1 1, 60, .inl (fun j => kb (m_nd t j)))) := rfl
theorem kc_22 (g : k_g) (ad : k_AD) (t : k_T) : k_ct g ad t 22 0 = some (.inl (g.2.1 1, 60, .inl (fun j => kb (m_ls t j)))) := rfl
theorem kc_23 (g : k_g) (ad : k_AD) (t : k_T) : k_ct g ad t 23 0 = some (.inl (g.2.1 0, 365, .inl (fun j => nI (m_rt t j)))) := rfl
theorem kc_24 (g : k_g) (ad : k_AD) (t : k_T) : k_ct g ad t 24 0 = some (.inl (g.2.1 2, 1, .inr (.inl (l_o t)))) := rfl
theorem kc_25 (g : k_g) (ad : k_AD) (t : k_T) {b : Nat} (h : b < o_n t) : k_ct g ad t 25 b = some (.inr (0, [.int (nI b), .int (nI (o_on t b)), va_rf ((o_b t b).map (ad 25)), .int (nI (o_ca t b)), .ref (ad 26 b), .int (nI (o_kc t b)), .int (kb (o_dm t b)), .int (kb (o_pv t b)), .int (kb (o_pm t b)), .int (kb (o_nd t b)), .int (kb (o_hd t b))])) := if_pos h
theorem kc_26 (g : k_g) (ad : k_AD) (t : k_T) {b : Nat} (h : b < o_n t) : k_ct g ad t 26 b = some (.inl (g.2.1 0, 10, .inl (o_k t b))) := if_pos h
theorem k_to {g : k_g} {ad : k_AD} {t t2 : k_T} {H : Heap} {x y : Nat} {e : va_E} (hs : ∀ a b, ¬ (a = x ∧ b = y) → k_ct g ad t2 a b = k_ct g ad t a b) (he : k_ct g ad t2 x y = some e) (h : k_Wd g (k_up (k_ct g ad t) x y e) ad H) : k_H g ad t2 H := by
  refine h.to fun a b z hz => ?_
  by_cases hq : a = x ∧ b = y
  · obtain ⟨rfl, rfl⟩ := hq
    simp only [k_up, and_self, if_true]
    exact he.symm.trans hz
  · simp only [k_up, if_neg hq]
    rw [← hs a b hq]; exact hz
theorem k_fnN (f : Nat → Nat) (k v : Nat) : upd (fun j => nI (f j)) k (nI v) = fun j => nI (va_up f k v j) := by
  funext j; by_cases h : j = k <;> simp [upd, va_up, h]
theorem k_fnO (f : Nat → Option Nat) (k : Nat) (v : Option Nat) : upd (fun j => kO (f j)) k (kO v) = fun j => kO (va_up f k v j) := by
  funext j; by_cases h : j = k <;> simp [upd, va_up, h]
theorem k_fnB (f : Nat → Bool) (k : Nat) (v : Bool) : upd (fun j => kb (f j)) k (kb v) = fun j => kb (va_up f k v j) := by
  funext j; by_cases h : j = k <;> simp [upd, va_up, h]
theorem k_fnI (f : Nat → Int32) (k : Nat) (v : Int32) : upd f k v = va_up f k v := rfl
theorem k_fnR (ad : k_AD) (f : Nat → Bool) (k : Nat) : va_up (fun j => if f j = true then some (ad 25 j) else none) k (some (ad 25 k)) = fun j => if va_up f k true j = true then some (ad 25 j) else none := by
  funext j; by_cases h : j = k <;> simp [va_up, h]
theorem k_fnR0 (ad : k_AD) (f : Nat → Bool) (k : Nat) : va_up (fun j => if f j = true then some (ad 25 j) else none) k none = fun j => if va_up f k false j = true then some (ad 25 j) else none := by
  funext j; by_cases h : j = k <;> simp [va_up, h]
theorem ks_x_d (g : k_g) (ad : k_AD) (t : k_T) (v : Nat) : ∀ a b, ¬ (a = 0 ∧ b = 0) → k_ct g ad (set_x_d t v) a b = k_ct g ad t a b := by
  intro a b h
  match a with
  | 0 => match b with | 0 => exact absurd ⟨rfl, rfl⟩ h | b + 1 => rfl
  | 1 => rfl
  | 2 => rfl
  | 3 => rfl
  | 4 => rfl
  | 5 => rfl
  | 6 => rfl
  | 7 => rfl
  | 8 => rfl
  | 9 => rfl
  | 10 => rfl
  | 11 => rfl
  | 12 => rfl
  | 13 => rfl
  | 14 => rfl
  | 15 => rfl
  | 16 => rfl
  | 17 => rfl
  | 18 => rfl
  | 19 => rfl
  | 20 => rfl
  | 21 => rfl
  | 22 => rfl
  | 23 => rfl
  | 24 => rfl
  | 25 => rfl
  | 26 => rfl
  | _ + 27 => rfl
theorem kt_x_d {g : k_g} {ad : k_AD} {t : k_T} {H : Heap} (v : Nat) {x : Int32} (hx : x = nI v) (h : k_Wd g (k_up (k_ct g ad t) 0 0 (.inr (4, [.ref (ad 1 0), .ref (ad 5 0), .ref (ad 7 0), .int x]))) ad H) : k_H g ad (set_x_d t v) H := by
  subst hx; exact k_to (ks_x_d g ad t v) rfl h
theorem ks_f_n (g : k_g) (ad : k_AD) (t : k_T) (v : Nat) : ∀ a b, ¬ (a = 1 ∧ b = 0) → k_ct g ad (set_f_n t v) a b = k_ct g ad t a b := by
  intro a b h
  match a with
  | 0 => rfl
  | 1 => match b with | 0 => exact absurd ⟨rfl, rfl⟩ h | b + 1 => rfl
  | 2 => rfl
  | 3 => rfl
  | 4 => rfl
  | 5 => rfl
  | 6 => rfl
  | 7 => rfl
  | 8 => rfl
  | 9 => rfl
  | 10 => rfl
  | 11 => rfl
  | 12 => rfl
  | 13 => rfl
  | 14 => rfl
  | 15 => rfl
  | 16 => rfl
  | 17 => rfl
  | 18 => rfl
  | 19 => rfl
  | 20 => rfl
  | 21 => rfl
  | 22 => rfl
  | 23 => rfl
  | 24 => rfl
  | 25 => rfl
  | 26 => rfl
  | _ + 27 => rfl
theorem kt_f_n {g : k_g} {ad : k_AD} {t : k_T} {H : Heap} (v : Nat) {x : Int32} (hx : x = nI v) (h : k_Wd g (k_up (k_ct g ad t) 1 0 (.inr (1, [.ref (ad 2 0), .ref (ad 3 0), .ref (ad 4 0), .int x]))) ad H) : k_H g ad (set_f_n t v) H := by
  subst hx; exact k_to (ks_f_n g ad t v) rfl h
theorem ks_f_c (g : k_g) (ad : k_AD) (t : k_T) (v : Nat → Int32) : ∀ a b, ¬ (a = 2 ∧ b = 0) → k_ct g ad (set_f_c t v) a b = k_ct g ad t a b := by
  intro a b h
  match a with
  | 0 => rfl
  | 1 => rfl
  | 2 => match b with | 0 => exact absurd ⟨rfl, rfl⟩ h | b + 1 => rfl
  | 3 => rfl
  | 4 => rfl
  | 5 => rfl
  | 6 => rfl
  | 7 => rfl
  | 8 => rfl
  | 9 => rfl
  | 10 => rfl
  | 11 => rfl
  | 12 => rfl
  | 13 => rfl
  | 14 => rfl
  | 15 => rfl
  | 16 => rfl
  | 17 => rfl
  | 18 => rfl
  | 19 => rfl
  | 20 => rfl
  | 21 => rfl
  | 22 => rfl
  | 23 => rfl
  | 24 => rfl
  | 25 => rfl
  | 26 => rfl
  | _ + 27 => rfl
theorem kt_f_c {g : k_g} {ad : k_AD} {t : k_T} {H : Heap} (k : Nat) (v : Int32) {x : Int32} (hx : x = v) (h : k_Wd g (k_up (k_ct g ad t) 2 0 (.inl (g.2.1 0, 10, .inl (upd (f_c t) k x)))) ad H) : k_H g ad (set_f_c t (va_up (f_c t) k v)) H := by
  subst hx; rw [k_fnI] at h; exact k_to (ks_f_c g ad t _) rfl h
theorem ks_f_lf (g : k_g) (ad : k_AD) (t : k_T) (v : Nat → Nat) : ∀ a b, ¬ (a = 3 ∧ b = 0) → k_ct g ad (set_f_lf t v) a b = k_ct g ad t a b := by
  intro a b h
  match a with
  | 0 => rfl
  | 1 => rfl
  | 2 => rfl
  | 3 => match b with | 0 => exact absurd ⟨rfl, rfl⟩ h | b + 1 => rfl
  | 4 => rfl
  | 5 => rfl
  | 6 => rfl
  | 7 => rfl
  | 8 => rfl
  | 9 => rfl
  | 10 => rfl
  | 11 => rfl
  | 12 => rfl
  | 13 => rfl
  | 14 => rfl
  | 15 => rfl
  | 16 => rfl
  | 17 => rfl
  | 18 => rfl
  | 19 => rfl
  | 20 => rfl
  | 21 => rfl
  | 22 => rfl
  | 23 => rfl
  | 24 => rfl
  | 25 => rfl
  | 26 => rfl
  | _ + 27 => rfl
theorem kt_f_lf {g : k_g} {ad : k_AD} {t : k_T} {H : Heap} (k : Nat) (v : Nat) {x : Int32} (hx : x = nI v) (h : k_Wd g (k_up (k_ct g ad t) 3 0 (.inl (g.2.1 0, 300, .inl (upd (fun j => nI (f_lf t j)) k x)))) ad H) : k_H g ad (set_f_lf t (va_up (f_lf t) k v)) H := by
  subst hx; rw [k_fnN] at h; exact k_to (ks_f_lf g ad t _) rfl h
theorem ks_f_lt (g : k_g) (ad : k_AD) (t : k_T) (v : Nat → Int32) : ∀ a b, ¬ (a = 4 ∧ b = 0) → k_ct g ad (set_f_lt t v) a b = k_ct g ad t a b := by
  intro a b h
  match a with
  | 0 => rfl
  | 1 => rfl
  | 2 => rfl
  | 3 => rfl
  | 4 => match b with | 0 => exact absurd ⟨rfl, rfl⟩ h | b + 1 => rfl
  | 5 => rfl
  | 6 => rfl
  | 7 => rfl
  | 8 => rfl
  | 9 => rfl
  | 10 => rfl
  | 11 => rfl
  | 12 => rfl
  | 13 => rfl
  | 14 => rfl
  | 15 => rfl
  | 16 => rfl
  | 17 => rfl
  | 18 => rfl
  | 19 => rfl
  | 20 => rfl
  | 21 => rfl
  | 22 => rfl
  | 23 => rfl
  | 24 => rfl
  | 25 => rfl
  | 26 => rfl
  | _ + 27 => rfl
theorem kt_f_lt {g : k_g} {ad : k_AD} {t : k_T} {H : Heap} (k : Nat) (v : Int32) {x : Int32} (hx : x = v) (h : k_Wd g (k_up (k_ct g ad t) 4 0 (.inl (g.2.1 0, 300, .inl (upd (f_lt t) k x)))) ad H) : k_H g ad (set_f_lt t (va_up (f_lt t) k v)) H := by
  subst hx; rw [k_fnI] at h; exact k_to (ks_f_lt g ad t _) rfl h
theorem ks_s_md (g : k_g) (ad : k_AD) (t : k_T) (v : Nat) : ∀ a b, ¬ (a = 5 ∧ b = 0) → k_ct g ad (set_s_md t v) a b = k_ct g ad t a b := by
  intro a b h
  match a with
  | 0 => rfl
  | 1 => rfl
  | 2 => rfl
  | 3 => rfl
  | 4 => rfl
  | 5 => match b with | 0 => exact absurd ⟨rfl, rfl⟩ h | b + 1 => rfl
  | 6 => rfl
  | 7 => rfl
  | 8 => rfl
  | 9 => rfl
  | 10 => rfl
  | 11 => rfl
  | 12 => rfl
  | 13 => rfl
  | 14 => rfl
  | 15 => rfl
  | 16 => rfl
  | 17 => rfl
  | 18 => rfl
  | 19 => rfl
  | 20 => rfl
  | 21 => rfl
  | 22 => rfl
  | 23 => rfl
  | 24 => rfl
  | 25 => rfl
  | 26 => rfl
  | _ + 27 => rfl
theorem kt_s_md {g : k_g} {ad : k_AD} {t : k_T} {H : Heap} (v : Nat) {x : Int32} (hx : x = nI v) (h : k_Wd g (k_up (k_ct g ad t) 5 0 (.inr (3, [.ref (ad 6 0), .int x, .int (nI (s_r1 t)), .int (nI (s_r2 t)), .int (nI (s_r3 t))]))) ad H) : k_H g ad (set_s_md t v) H := by
  subst hx; exact k_to (ks_s_md g ad t v) rfl h
theorem ks_s_r1 (g : k_g) (ad : k_AD) (t : k_T) (v : Nat) : ∀ a b, ¬ (a = 5 ∧ b = 0) → k_ct g ad (set_s_r1 t v) a b = k_ct g ad t a b := by
  intro a b h
  match a with
  | 0 => rfl
  | 1 => rfl
  | 2 => rfl
  | 3 => rfl
  | 4 => rfl
  | 5 => match b with | 0 => exact absurd ⟨rfl, rfl⟩ h | b + 1 => rfl
  | 6 => rfl
  | 7 => rfl
  | 8 => rfl
  | 9 => rfl
  | 10 => rfl
  | 11 => rfl
  | 12 => rfl
  | 13 => rfl
  | 14 => rfl
  | 15 => rfl
  | 16 => rfl
  | 17 => rfl
  | 18 => rfl
  | 19 => rfl
  | 20 => rfl
  | 21 => rfl
  | 22 => rfl
  | 23 => rfl
  | 24 => rfl
  | 25 => rfl
  | 26 => rfl
  | _ + 27 => rfl
theorem kt_s_r1 {g : k_g} {ad : k_AD} {t : k_T} {H : Heap} (v : Nat) {x : Int32} (hx : x = nI v) (h : k_Wd g (k_up (k_ct g ad t) 5 0 (.inr (3, [.ref (ad 6 0), .int (nI (s_md t)), .int x, .int (nI (s_r2 t)), .int (nI (s_r3 t))]))) ad H) : k_H g ad (set_s_r1 t v) H := by
  subst hx; exact k_to (ks_s_r1 g ad t v) rfl h
theorem ks_s_r2 (g : k_g) (ad : k_AD) (t : k_T) (v : Nat) : ∀ a b, ¬ (a = 5 ∧ b = 0) → k_ct g ad (set_s_r2 t v) a b = k_ct g ad t a b := by
  intro a b h
  match a with
  | 0 => rfl
  | 1 => rfl
  | 2 => rfl
  | 3 => rfl
  | 4 => rfl
  | 5 => match b with | 0 => exact absurd ⟨rfl, rfl⟩ h | b + 1 => rfl
  | 6 => rfl
  | 7 => rfl
  | 8 => rfl
  | 9 => rfl
  | 10 => rfl
  | 11 => rfl
  | 12 => rfl
  | 13 => rfl
  | 14 => rfl
  | 15 => rfl
  | 16 => rfl
  | 17 => rfl
  | 18 => rfl
  | 19 => rfl
  | 20 => rfl
  | 21 => rfl
  | 22 => rfl
  | 23 => rfl
  | 24 => rfl
  | 25 => rfl
  | 26 => rfl
  | _ + 27 => rfl
theorem kt_s_r2 {g : k_g} {ad : k_AD} {t : k_T} {H : Heap} (v : Nat) {x : Int32} (hx : x = nI v) (h : k_Wd g (k_up (k_ct g ad t) 5 0 (.inr (3, [.ref (ad 6 0), .int (nI (s_md t)), .int (nI (s_r1 t)), .int x, .int (nI (s_r3 t))]))) ad H) : k_H g ad (set_s_r2 t v) H := by
  subst hx; exact k_to (ks_s_r2 g ad t v) rfl h
theorem ks_s_r3 (g : k_g) (ad : k_AD) (t : k_T) (v : Nat) : ∀ a b, ¬ (a = 5 ∧ b = 0) → k_ct g ad (set_s_r3 t v) a b = k_ct g ad t a b := by
  intro a b h
  match a with
  | 0 => rfl
  | 1 => rfl
  | 2 => rfl
  | 3 => rfl
  | 4 => rfl
  | 5 => match b with | 0 => exact absurd ⟨rfl, rfl⟩ h | b + 1 => rfl
  | 6 => rfl
  | 7 => rfl
  | 8 => rfl
  | 9 => rfl
  | 10 => rfl
  | 11 => rfl
  | 12 => rfl
  | 13 => rfl
  | 14 => rfl
  | 15 => rfl
  | 16 => rfl
  | 17 => rfl
  | 18 => rfl
  | 19 => rfl
  | 20 => rfl
  | 21 => rfl
  | 22 => rfl
  | 23 => rfl
  | 24 => rfl
  | 25 => rfl
  | 26 => rfl
  | _ + 27 => rfl
theorem kt_s_r3 {g : k_g} {ad : k_AD} {t : k_T} {H : Heap} (v : Nat) {x : Int32} (hx : x = nI v) (h : k_Wd g (k_up (k_ct g ad t) 5 0 (.inr (3, [.ref (ad 6 0), .int (nI (s_md t)), .int (nI (s_r1 t)), .int (nI (s_r2 t)), .int x]))) ad H) : k_H g ad (set_s_r3 t v) H := by
  subst hx; exact k_to (ks_s_r3 g ad t v) rfl h
theorem ks_s_th (g : k_g) (ad : k_AD) (t : k_T) (v : Nat → Bool) : ∀ a b, ¬ (a = 6 ∧ b = 0) → k_ct g ad (set_s_th t v) a b = k_ct g ad t a b := by
  intro a b h
  match a with
  | 0 => rfl
  | 1 => rfl
  | 2 => rfl
  | 3 => rfl
  | 4 => rfl
  | 5 => rfl
  | 6 => match b with | 0 => exact absurd ⟨rfl, rfl⟩ h | b + 1 => rfl
  | 7 => rfl
  | 8 => rfl
  | 9 => rfl
  | 10 => rfl
  | 11 => rfl
  | 12 => rfl
  | 13 => rfl
  | 14 => rfl
  | 15 => rfl
  | 16 => rfl
  | 17 => rfl
  | 18 => rfl
  | 19 => rfl
  | 20 => rfl
  | 21 => rfl
  | 22 => rfl
  | 23 => rfl
  | 24 => rfl
  | 25 => rfl
  | 26 => rfl
  | _ + 27 => rfl
theorem kt_s_th {g : k_g} {ad : k_AD} {t : k_T} {H : Heap} (k : Nat) (h : k_Wd g (k_up (k_ct g ad t) 6 0 (.inl (g.2.1 3, 60, .inr (.inr (.inr (.inr (va_up (fun j => if s_th t j = true then some (ad 25 j) else none) k (some (ad 25 k))))))))) ad H) : k_H g ad (set_s_th t (va_up (s_th t) k true)) H := by
  rw [k_fnR] at h; exact k_to (ks_s_th g ad t _) rfl h
theorem kt_s_th0 {g : k_g} {ad : k_AD} {t : k_T} {H : Heap} (k : Nat) (h : k_Wd g (k_up (k_ct g ad t) 6 0 (.inl (g.2.1 3, 60, .inr (.inr (.inr (.inr (va_up (fun j => if s_th t j = true then some (ad 25 j) else none) k none))))))) ad H) : k_H g ad (set_s_th t (va_up (s_th t) k false)) H := by
  rw [k_fnR0] at h; exact k_to (ks_s_th g ad t _) rfl h
theorem ks_r_p (g : k_g) (ad : k_AD) (t : k_T) (v : Nat → Nat) : ∀ a b, ¬ (a = 8 ∧ b = 0) → k_ct g ad (set_r_p t v) a b = k_ct g ad t a b := by
  intro a b h
  match a with
  | 0 => rfl
  | 1 => rfl
  | 2 => rfl
  | 3 => rfl
  | 4 => rfl
  | 5 => rfl
  | 6 => rfl
  | 7 => rfl
  | 8 => match b with | 0 => exact absurd ⟨rfl, rfl⟩ h | b + 1 => rfl
  | 9 => rfl
  | 10 => rfl
  | 11 => rfl
  | 12 => rfl
  | 13 => rfl
  | 14 => rfl
  | 15 => rfl
  | 16 => rfl
  | 17 => rfl
  | 18 => rfl
  | 19 => rfl
  | 20 => rfl
  | 21 => rfl
  | 22 => rfl
  | 23 => rfl
  | 24 => rfl
  | 25 => rfl
  | 26 => rfl
  | _ + 27 => rfl
theorem kt_r_p {g : k_g} {ad : k_AD} {t : k_T} {H : Heap} (k : Nat) (v : Nat) {x : Int32} (hx : x = nI v) (h : k_Wd g (k_up (k_ct g ad t) 8 0 (.inl (g.2.1 0, 365, .inl (upd (fun j => nI (r_p t j)) k x)))) ad H) : k_H g ad (set_r_p t (va_up (r_p t) k v)) H := by
  subst hx; rw [k_fnN] at h; exact k_to (ks_r_p g ad t _) rfl h
theorem ks_m_n (g : k_g) (ad : k_AD) (t : k_T) (v : Nat) : ∀ a b, ¬ (a = 9 ∧ b = 0) → k_ct g ad (set_m_n t v) a b = k_ct g ad t a b := by
  intro a b h
  match a with
  | 0 => rfl
  | 1 => rfl
  | 2 => rfl
  | 3 => rfl
  | 4 => rfl
  | 5 => rfl
  | 6 => rfl
  | 7 => rfl
  | 8 => rfl
  | 9 => match b with | 0 => exact absurd ⟨rfl, rfl⟩ h | b + 1 => rfl
  | 10 => rfl
  | 11 => rfl
  | 12 => rfl
  | 13 => rfl
  | 14 => rfl
  | 15 => rfl
  | 16 => rfl
  | 17 => rfl
  | 18 => rfl
  | 19 => rfl
  | 20 => rfl
  | 21 => rfl
  | 22 => rfl
  | 23 => rfl
  | 24 => rfl
  | 25 => rfl
  | 26 => rfl
  | _ + 27 => rfl
theorem kt_m_n {g : k_g} {ad : k_AD} {t : k_T} {H : Heap} (v : Nat) {x : Int32} (hx : x = nI v) (h : k_Wd g (k_up (k_ct g ad t) 9 0 (.inr (5, [.ref (ad 10 0), .ref (ad 11 0), .int x, .int (nI (m_d t)), .ref (ad 12 0), .ref (ad 13 0), .ref (ad 14 0), .ref (ad 15 0), .ref (ad 16 0), .ref (ad 17 0), .ref (ad 18 0), .ref (ad 19 0), .int (nI (m_md t)), .int (nI (m_r1 t)), .int (nI (m_r2 t)), .int (nI (m_r3 t)), .ref (ad 20 0), .ref (ad 21 0), .ref (ad 22 0), .ref (ad 23 0), .int (nI (m_l t))]))) ad H) : k_H g ad (set_m_n t v) H := by
  subst hx; exact k_to (ks_m_n g ad t v) rfl h
theorem ks_m_d (g : k_g) (ad : k_AD) (t : k_T) (v : Nat) : ∀ a b, ¬ (a = 9 ∧ b = 0) → k_ct g ad (set_m_d t v) a b = k_ct g ad t a b := by
  intro a b h
  match a with
  | 0 => rfl
  | 1 => rfl
  | 2 => rfl
  | 3 => rfl
  | 4 => rfl
  | 5 => rfl
  | 6 => rfl
  | 7 => rfl
  | 8 => rfl
  | 9 => match b with | 0 => exact absurd ⟨rfl, rfl⟩ h | b + 1 => rfl
  | 10 => rfl
  | 11 => rfl
  | 12 => rfl
  | 13 => rfl
  | 14 => rfl
  | 15 => rfl
  | 16 => rfl
  | 17 => rfl
  | 18 => rfl
  | 19 => rfl
  | 20 => rfl
  | 21 => rfl
  | 22 => rfl
  | 23 => rfl
  | 24 => rfl
  | 25 => rfl
  | 26 => rfl
  | _ + 27 => rfl
theorem kt_m_d {g : k_g} {ad : k_AD} {t : k_T} {H : Heap} (v : Nat) {x : Int32} (hx : x = nI v) (h : k_Wd g (k_up (k_ct g ad t) 9 0 (.inr (5, [.ref (ad 10 0), .ref (ad 11 0), .int (nI (m_n t)), .int x, .ref (ad 12 0), .ref (ad 13 0), .ref (ad 14 0), .ref (ad 15 0), .ref (ad 16 0), .ref (ad 17 0), .ref (ad 18 0), .ref (ad 19 0), .int (nI (m_md t)), .int (nI (m_r1 t)), .int (nI (m_r2 t)), .int (nI (m_r3 t)), .ref (ad 20 0), .ref (ad 21 0), .ref (ad 22 0), .ref (ad 23 0), .int (nI (m_l t))]))) ad H) : k_H g ad (set_m_d t v) H := by
  subst hx; exact k_to (ks_m_d g ad t v) rfl h
theorem ks_m_md (g : k_g) (ad : k_AD) (t : k_T) (v : Nat) : ∀ a b, ¬ (a = 9 ∧ b = 0) → k_ct g ad (set_m_md t v) a b = k_ct g ad t a b := by
  intro a b h
  match a with
  | 0 => rfl
  | 1 => rfl
  | 2 => rfl
  | 3 => rfl
  | 4 => rfl
  | 5 => rfl
  | 6 => rfl
  | 7 => rfl
  | 8 => rfl
  | 9 => match b with | 0 => exact absurd ⟨rfl, rfl⟩ h | b + 1 => rfl
  | 10 => rfl
  | 11 => rfl
  | 12 => rfl
  | 13 => rfl
  | 14 => rfl
  | 15 => rfl
  | 16 => rfl
  | 17 => rfl
  | 18 => rfl
  | 19 => rfl
  | 20 => rfl
  | 21 => rfl
  | 22 => rfl
  | 23 => rfl
  | 24 => rfl
  | 25 => rfl
  | 26 => rfl
  | _ + 27 => rfl
theorem kt_m_md {g : k_g} {ad : k_AD} {t : k_T} {H : Heap} (v : Nat) {x : Int32} (hx : x = nI v) (h : k_Wd g (k_up (k_ct g ad t) 9 0 (.inr (5, [.ref (ad 10 0), .ref (ad 11 0), .int (nI (m_n t)), .int (nI (m_d t)), .ref (ad 12 0), .ref (ad 13 0), .ref (ad 14 0), .ref (ad 15 0), .ref (ad 16 0), .ref (ad 17 0), .ref (ad 18 0), .ref (ad 19 0), .int x, .int (nI (m_r1 t)), .int (nI (m_r2 t)), .int (nI (m_r3 t)), .ref (ad 20 0), .ref (ad 21 0), .ref (ad 22 0), .ref (ad 23 0), .int (nI (m_l t))]))) ad H) : k_H g ad (set_m_md t v) H := by
  subst hx; exact k_to (ks_m_md g ad t v) rfl h
theorem ks_m_r1 (g : k_g) (ad : k_AD) (t : k_T) (v : Nat) : ∀ a b, ¬ (a = 9 ∧ b = 0) → k_ct g ad (set_m_r1 t v) a b = k_ct g ad t a b := by
  intro a b h
  match a with
  | 0 => rfl
  | 1 => rfl
  | 2 => rfl
  | 3 => rfl
  | 4 => rfl
  | 5 => rfl
  | 6 => rfl
  | 7 => rfl
  | 8 => rfl
  | 9 => match b with | 0 => exact absurd ⟨rfl, rfl⟩ h | b + 1 => rfl
  | 10 => rfl
  | 11 => rfl
  | 12 => rfl
  | 13 => rfl
  | 14 => rfl
  | 15 => rfl
  | 16 => rfl
  | 17 => rfl
  | 18 => rfl
  | 19 => rfl
  | 20 => rfl
  | 21 => rfl
  | 22 => rfl
  | 23 => rfl
  | 24 => rfl
  | 25 => rfl
  | 26 => rfl
  | _ + 27 => rfl
theorem kt_m_r1 {g : k_g} {ad : k_AD} {t : k_T} {H : Heap} (v : Nat) {x : Int32} (hx : x = nI v) (h : k_Wd g (k_up (k_ct g ad t) 9 0 (.inr (5, [.ref (ad 10 0), .ref (ad 11 0), .int (nI (m_n t)), .int (nI (m_d t)), .ref (ad 12 0), .ref (ad 13 0), .ref (ad 14 0), .ref (ad 15 0), .ref (ad 16 0), .ref (ad 17 0), .ref (ad 18 0), .ref (ad 19 0), .int (nI (m_md t)), .int x, .int (nI (m_r2 t)), .int (nI (m_r3 t)), .ref (ad 20 0), .ref (ad 21 0), .ref (ad 22 0), .ref (ad 23 0), .int (nI (m_l t))]))) ad H) : k_H g ad (set_m_r1 t v) H := by
  subst hx; exact k_to (ks_m_r1 g ad t v) rfl h
theorem ks_m_r2 (g : k_g) (ad : k_AD) (t : k_T) (v : Nat) : ∀ a b, ¬ (a = 9 ∧ b = 0) → k_ct g ad (set_m_r2 t v) a b = k_ct g ad t a b := by
  intro a b h
  match a with
  | 0 => rfl
  | 1 => rfl
  | 2 => rfl
  | 3 => rfl
  | 4 => rfl
  | 5 => rfl
  | 6 => rfl
  | 7 => rfl
  | 8 => rfl
  | 9 => match b with | 0 => exact absurd ⟨rfl, rfl⟩ h | b + 1 => rfl
  | 10 => rfl
  | 11 => rfl
  | 12 => rfl
  | 13 => rfl
  | 14 => rfl
  | 15 => rfl
  | 16 => rfl
  | 17 => rfl
  | 18 => rfl
  | 19 => rfl
  | 20 => rfl
  | 21 => rfl
  | 22 => rfl
  | 23 => rfl
  | 24 => rfl
  | 25 => rfl
  | 26 => rfl
  | _ + 27 => rfl
theorem kt_m_r2 {g : k_g} {ad : k_AD} {t : k_T} {H : Heap} (v : Nat) {x : Int32} (hx : x = nI v) (h : k_Wd g (k_up (k_ct g ad t) 9 0 (.inr (5, [.ref (ad 10 0), .ref (ad 11 0), .int (nI (m_n t)), .int (nI (m_d t)), .ref (ad 12 0), .ref (ad 13 0), .ref (ad 14 0), .ref (ad 15 0), .ref (ad 16 0), .ref (ad 17 0), .ref (ad 18 0), .ref (ad 19 0), .int (nI (m_md t)), .int (nI (m_r1 t)), .int x, .int (nI (m_r3 t)), .ref (ad 20 0), .ref (ad 21 0), .ref (ad 22 0), .ref (ad 23 0), .int (nI (m_l t))]))) ad H) : k_H g ad (set_m_r2 t v) H := by
  subst hx; exact k_to (ks_m_r2 g ad t v) rfl h
theorem ks_m_r3 (g : k_g) (ad : k_AD) (t : k_T) (v : Nat) : ∀ a b, ¬ (a = 9 ∧ b = 0) → k_ct g ad (set_m_r3 t v) a b = k_ct g ad t a b := by
  intro a b h
  match a with
  | 0 => rfl
  | 1 => rfl
  | 2 => rfl
  | 3 => rfl
  | 4 => rfl
  | 5 => rfl
  | 6 => rfl
  | 7 => rfl
  | 8 => rfl
  | 9 => match b with | 0 => exact absurd ⟨rfl, rfl⟩ h | b + 1 => rfl
  | 10 => rfl
  | 11 => rfl
  | 12 => rfl
  | 13 => rfl
  | 14 => rfl
  | 15 => rfl
  | 16 => rfl
  | 17 => rfl
  | 18 => rfl
  | 19 => rfl
  | 20 => rfl
  | 21 => rfl
  | 22 => rfl
  | 23 => rfl
  | 24 => rfl
  | 25 => rfl
  | 26 => rfl
  | _ + 27 => rfl
theorem kt_m_r3 {g : k_g} {ad : k_AD} {t : k_T} {H : Heap} (v : Nat) {x : Int32} (hx : x = nI v) (h : k_Wd g (k_up (k_ct g ad t) 9 0 (.inr (5, [.ref (ad 10 0), .ref (ad 11 0), .int (nI (m_n t)), .int (nI (m_d t)), .ref (ad 12 0), .ref (ad 13 0), .ref (ad 14 0), .ref (ad 15 0), .ref (ad 16 0), .ref (ad 17 0), .ref (ad 18 0), .ref (ad 19 0), .int (nI (m_md t)), .int (nI (m_r1 t)), .int (nI (m_r2 t)), .int x, .ref (ad 20 0), .ref (ad 21 0), .ref (ad 22 0), .ref (ad 23 0), .int (nI (m_l t))]))) ad H) : k_H g ad (set_m_r3 t v) H := by
  subst hx; exact k_to (ks_m_r3 g ad t v) rfl h
theorem ks_m_l (g : k_g) (ad : k_AD) (t : k_T) (v : Nat) : ∀ a b, ¬ (a = 9 ∧ b = 0) → k_ct g ad (set_m_l t v) a b = k_ct g ad t a b := by
  intro a b h
  match a with
  | 0 => rfl
  | 1 => rfl
  | 2 => rfl
  | 3 => rfl
  | 4 => rfl
  | 5 => rfl
  | 6 => rfl
  | 7 => rfl
  | 8 => rfl
  | 9 => match b with | 0 => exact absurd ⟨rfl, rfl⟩ h | b + 1 => rfl
  | 10 => rfl
  | 11 => rfl
  | 12 => rfl
  | 13 => rfl
  | 14 => rfl
  | 15 => rfl
  | 16 => rfl
  | 17 => rfl
  | 18 => rfl
  | 19 => rfl
  | 20 => rfl
  | 21 => rfl
  | 22 => rfl
  | 23 => rfl
  | 24 => rfl
  | 25 => rfl
  | 26 => rfl
  | _ + 27 => rfl
theorem kt_m_l {g : k_g} {ad : k_AD} {t : k_T} {H : Heap} (v : Nat) {x : Int32} (hx : x = nI v) (h : k_Wd g (k_up (k_ct g ad t) 9 0 (.inr (5, [.ref (ad 10 0), .ref (ad 11 0), .int (nI (m_n t)), .int (nI (m_d t)), .ref (ad 12 0), .ref (ad 13 0), .ref (ad 14 0), .ref (ad 15 0), .ref (ad 16 0), .ref (ad 17 0), .ref (ad 18 0), .ref (ad 19 0), .int (nI (m_md t)), .int (nI (m_r1 t)), .int (nI (m_r2 t)), .int (nI (m_r3 t)), .ref (ad 20 0), .ref (ad 21 0), .ref (ad 22 0), .ref (ad 23 0), .int x]))) ad H) : k_H g ad (set_m_l t v) H := by
  subst hx; exact k_to (ks_m_l g ad t v) rfl h
theorem ks_m_c (g : k_g) (ad : k_AD) (t : k_T) (v : Nat → Int32) : ∀ a b, ¬ (a = 10 ∧ b = 0) → k_ct g ad (set_m_c t v) a b = k_ct g ad t a b := by
  intro a b h
  match a with
  | 0 => rfl
  | 1 => rfl
  | 2 => rfl
  | 3 => rfl
  | 4 => rfl
  | 5 => rfl
  | 6 => rfl
  | 7 => rfl
  | 8 => rfl
  | 9 => rfl
  | 10 => match b with | 0 => exact absurd ⟨rfl, rfl⟩ h | b + 1 => rfl
  | 11 => rfl
  | 12 => rfl
  | 13 => rfl
  | 14 => rfl
  | 15 => rfl
  | 16 => rfl
  | 17 => rfl
  | 18 => rfl
  | 19 => rfl
  | 20 => rfl
  | 21 => rfl
  | 22 => rfl
  | 23 => rfl
  | 24 => rfl
  | 25 => rfl
  | 26 => rfl
  | _ + 27 => rfl
theorem kt_m_c {g : k_g} {ad : k_AD} {t : k_T} {H : Heap} (k : Nat) (v : Int32) {x : Int32} (hx : x = v) (h : k_Wd g (k_up (k_ct g ad t) 10 0 (.inl (g.2.1 0, 10, .inl (upd (m_c t) k x)))) ad H) : k_H g ad (set_m_c t (va_up (m_c t) k v)) H := by
  subst hx; rw [k_fnI] at h; exact k_to (ks_m_c g ad t _) rfl h
theorem ks_m_ch (g : k_g) (ad : k_AD) (t : k_T) (v : Nat → Nat) : ∀ a b, ¬ (a = 11 ∧ b = 0) → k_ct g ad (set_m_ch t v) a b = k_ct g ad t a b := by
  intro a b h
  match a with
  | 0 => rfl
  | 1 => rfl
  | 2 => rfl
  | 3 => rfl
  | 4 => rfl
  | 5 => rfl
  | 6 => rfl
  | 7 => rfl
  | 8 => rfl
  | 9 => rfl
  | 10 => rfl
  | 11 => match b with | 0 => exact absurd ⟨rfl, rfl⟩ h | b + 1 => rfl
  | 12 => rfl
  | 13 => rfl
  | 14 => rfl
  | 15 => rfl
  | 16 => rfl
  | 17 => rfl
  | 18 => rfl
  | 19 => rfl
  | 20 => rfl
  | 21 => rfl
  | 22 => rfl
  | 23 => rfl
  | 24 => rfl
  | 25 => rfl
  | 26 => rfl
  | _ + 27 => rfl
theorem kt_m_ch {g : k_g} {ad : k_AD} {t : k_T} {H : Heap} (k : Nat) (v : Nat) {x : Int32} (hx : x = nI v) (h : k_Wd g (k_up (k_ct g ad t) 11 0 (.inl (g.2.1 0, 10, .inl (upd (fun j => nI (m_ch t j)) k x)))) ad H) : k_H g ad (set_m_ch t (va_up (m_ch t) k v)) H := by
  subst hx; rw [k_fnN] at h; exact k_to (ks_m_ch g ad t _) rfl h
theorem ks_m_on (g : k_g) (ad : k_AD) (t : k_T) (v : Nat → Nat) : ∀ a b, ¬ (a = 12 ∧ b = 0) → k_ct g ad (set_m_on t v) a b = k_ct g ad t a b := by
  intro a b h
  match a with
  | 0 => rfl
  | 1 => rfl
  | 2 => rfl
  | 3 => rfl
  | 4 => rfl
  | 5 => rfl
  | 6 => rfl
  | 7 => rfl
  | 8 => rfl
  | 9 => rfl
  | 10 => rfl
  | 11 => rfl
  | 12 => match b with | 0 => exact absurd ⟨rfl, rfl⟩ h | b + 1 => rfl
  | 13 => rfl
  | 14 => rfl
  | 15 => rfl
  | 16 => rfl
  | 17 => rfl
  | 18 => rfl
  | 19 => rfl
  | 20 => rfl
  | 21 => rfl
  | 22 => rfl
  | 23 => rfl
  | 24 => rfl
  | 25 => rfl
  | 26 => rfl
  | _ + 27 => rfl
theorem kt_m_on {g : k_g} {ad : k_AD} {t : k_T} {H : Heap} (k : Nat) (v : Nat) {x : Int32} (hx : x = nI v) (h : k_Wd g (k_up (k_ct g ad t) 12 0 (.inl (g.2.1 0, 60, .inl (upd (fun j => nI (m_on t j)) k x)))) ad H) : k_H g ad (set_m_on t (va_up (m_on t) k v)) H := by
  subst hx; rw [k_fnN] at h; exact k_to (ks_m_on g ad t _) rfl h
theorem ks_m_b (g : k_g) (ad : k_AD) (t : k_T) (v : Nat → Option Nat) : ∀ a b, ¬ (a = 13 ∧ b = 0) → k_ct g ad (set_m_b t v) a b = k_ct g ad t a b := by
  intro a b h
  match a with
  | 0 => rfl
  | 1 => rfl
  | 2 => rfl
  | 3 => rfl
  | 4 => rfl
  | 5 => rfl
  | 6 => rfl
  | 7 => rfl
  | 8 => rfl
  | 9 => rfl
  | 10 => rfl
  | 11 => rfl
  | 12 => rfl
  | 13 => match b with | 0 => exact absurd ⟨rfl, rfl⟩ h | b + 1 => rfl
  | 14 => rfl
  | 15 => rfl
  | 16 => rfl
  | 17 => rfl
  | 18 => rfl
  | 19 => rfl
  | 20 => rfl
  | 21 => rfl
  | 22 => rfl
  | 23 => rfl
  | 24 => rfl
  | 25 => rfl
  | 26 => rfl
  | _ + 27 => rfl
theorem kt_m_b {g : k_g} {ad : k_AD} {t : k_T} {H : Heap} (k : Nat) (v : Option Nat) {x : Int32} (hx : x = kO v) (h : k_Wd g (k_up (k_ct g ad t) 13 0 (.inl (g.2.1 0, 60, .inl (upd (fun j => kO (m_b t j)) k x)))) ad H) : k_H g ad (set_m_b t (va_up (m_b t) k v)) H := by
  subst hx; rw [k_fnO] at h; exact k_to (ks_m_b g ad t _) rfl h
theorem ks_m_sz (g : k_g) (ad : k_AD) (t : k_T) (v : Nat → Nat) : ∀ a b, ¬ (a = 14 ∧ b = 0) → k_ct g ad (set_m_sz t v) a b = k_ct g ad t a b := by
  intro a b h
  match a with
  | 0 => rfl
  | 1 => rfl
  | 2 => rfl
  | 3 => rfl
  | 4 => rfl
  | 5 => rfl
  | 6 => rfl
  | 7 => rfl
  | 8 => rfl
  | 9 => rfl
  | 10 => rfl
  | 11 => rfl
  | 12 => rfl
  | 13 => rfl
  | 14 => match b with | 0 => exact absurd ⟨rfl, rfl⟩ h | b + 1 => rfl
  | 15 => rfl
  | 16 => rfl
  | 17 => rfl
  | 18 => rfl
  | 19 => rfl
  | 20 => rfl
  | 21 => rfl
  | 22 => rfl
  | 23 => rfl
  | 24 => rfl
  | 25 => rfl
  | 26 => rfl
  | _ + 27 => rfl
theorem kt_m_sz {g : k_g} {ad : k_AD} {t : k_T} {H : Heap} (k : Nat) (v : Nat) {x : Int32} (hx : x = nI v) (h : k_Wd g (k_up (k_ct g ad t) 14 0 (.inl (g.2.1 0, 60, .inl (upd (fun j => nI (m_sz t j)) k x)))) ad H) : k_H g ad (set_m_sz t (va_up (m_sz t) k v)) H := by
  subst hx; rw [k_fnN] at h; exact k_to (ks_m_sz g ad t _) rfl h
theorem ks_m_at (g : k_g) (ad : k_AD) (t : k_T) (v : Nat → Nat) : ∀ a b, ¬ (a = 15 ∧ b = 0) → k_ct g ad (set_m_at t v) a b = k_ct g ad t a b := by
  intro a b h
  match a with
  | 0 => rfl
  | 1 => rfl
  | 2 => rfl
  | 3 => rfl
  | 4 => rfl
  | 5 => rfl
  | 6 => rfl
  | 7 => rfl
  | 8 => rfl
  | 9 => rfl
  | 10 => rfl
  | 11 => rfl
  | 12 => rfl
  | 13 => rfl
  | 14 => rfl
  | 15 => match b with | 0 => exact absurd ⟨rfl, rfl⟩ h | b + 1 => rfl
  | 16 => rfl
  | 17 => rfl
  | 18 => rfl
  | 19 => rfl
  | 20 => rfl
  | 21 => rfl
  | 22 => rfl
  | 23 => rfl
  | 24 => rfl
  | 25 => rfl
  | 26 => rfl
  | _ + 27 => rfl
theorem kt_m_at {g : k_g} {ad : k_AD} {t : k_T} {H : Heap} (k : Nat) (v : Nat) {x : Int32} (hx : x = nI v) (h : k_Wd g (k_up (k_ct g ad t) 15 0 (.inl (g.2.1 0, 60, .inl (upd (fun j => nI (m_at t j)) k x)))) ad H) : k_H g ad (set_m_at t (va_up (m_at t) k v)) H := by
  subst hx; rw [k_fnN] at h; exact k_to (ks_m_at g ad t _) rfl h
theorem ks_m_k (g : k_g) (ad : k_AD) (t : k_T) (v : Nat → Int32) : ∀ a b, ¬ (a = 16 ∧ b = 0) → k_ct g ad (set_m_k t v) a b = k_ct g ad t a b := by
  intro a b h
  match a with
  | 0 => rfl
  | 1 => rfl
  | 2 => rfl
  | 3 => rfl
  | 4 => rfl
  | 5 => rfl
  | 6 => rfl
  | 7 => rfl
  | 8 => rfl
  | 9 => rfl
  | 10 => rfl
  | 11 => rfl
  | 12 => rfl
  | 13 => rfl
  | 14 => rfl
  | 15 => rfl
  | 16 => match b with | 0 => exact absurd ⟨rfl, rfl⟩ h | b + 1 => rfl
  | 17 => rfl
  | 18 => rfl
  | 19 => rfl
  | 20 => rfl
  | 21 => rfl
  | 22 => rfl
  | 23 => rfl
  | 24 => rfl
  | 25 => rfl
  | 26 => rfl
  | _ + 27 => rfl
theorem kt_m_k {g : k_g} {ad : k_AD} {t : k_T} {H : Heap} (k : Nat) (v : Int32) {x : Int32} (hx : x = v) (h : k_Wd g (k_up (k_ct g ad t) 16 0 (.inl (g.2.1 0, 600, .inl (upd (m_k t) k x)))) ad H) : k_H g ad (set_m_k t (va_up (m_k t) k v)) H := by
  subst hx; rw [k_fnI] at h; exact k_to (ks_m_k g ad t _) rfl h
theorem ks_m_th (g : k_g) (ad : k_AD) (t : k_T) (v : Nat → Bool) : ∀ a b, ¬ (a = 17 ∧ b = 0) → k_ct g ad (set_m_th t v) a b = k_ct g ad t a b := by
  intro a b h
  match a with
  | 0 => rfl
  | 1 => rfl
  | 2 => rfl
  | 3 => rfl
  | 4 => rfl
  | 5 => rfl
  | 6 => rfl
  | 7 => rfl
  | 8 => rfl
  | 9 => rfl
  | 10 => rfl
  | 11 => rfl
  | 12 => rfl
  | 13 => rfl
  | 14 => rfl
  | 15 => rfl
  | 16 => rfl
  | 17 => match b with | 0 => exact absurd ⟨rfl, rfl⟩ h | b + 1 => rfl
  | 18 => rfl
  | 19 => rfl
  | 20 => rfl
  | 21 => rfl
  | 22 => rfl
  | 23 => rfl
  | 24 => rfl
  | 25 => rfl
  | 26 => rfl
  | _ + 27 => rfl
theorem kt_m_th {g : k_g} {ad : k_AD} {t : k_T} {H : Heap} (k : Nat) (v : Bool) {x : Int32} (hx : x = kb v) (h : k_Wd g (k_up (k_ct g ad t) 17 0 (.inl (g.2.1 1, 60, .inl (upd (fun j => kb (m_th t j)) k x)))) ad H) : k_H g ad (set_m_th t (va_up (m_th t) k v)) H := by
  subst hx; rw [k_fnB] at h; exact k_to (ks_m_th g ad t _) rfl h
theorem ks_m_dm (g : k_g) (ad : k_AD) (t : k_T) (v : Nat → Bool) : ∀ a b, ¬ (a = 18 ∧ b = 0) → k_ct g ad (set_m_dm t v) a b = k_ct g ad t a b := by
  intro a b h
  match a with
  | 0 => rfl
  | 1 => rfl
  | 2 => rfl
  | 3 => rfl
  | 4 => rfl
  | 5 => rfl
  | 6 => rfl
  | 7 => rfl
  | 8 => rfl
  | 9 => rfl
  | 10 => rfl
  | 11 => rfl
  | 12 => rfl
  | 13 => rfl
  | 14 => rfl
  | 15 => rfl
  | 16 => rfl
  | 17 => rfl
  | 18 => match b with | 0 => exact absurd ⟨rfl, rfl⟩ h | b + 1 => rfl
  | 19 => rfl
  | 20 => rfl
  | 21 => rfl
  | 22 => rfl
  | 23 => rfl
  | 24 => rfl
  | 25 => rfl
  | 26 => rfl
  | _ + 27 => rfl
theorem kt_m_dm {g : k_g} {ad : k_AD} {t : k_T} {H : Heap} (k : Nat) (v : Bool) {x : Int32} (hx : x = kb v) (h : k_Wd g (k_up (k_ct g ad t) 18 0 (.inl (g.2.1 1, 60, .inl (upd (fun j => kb (m_dm t j)) k x)))) ad H) : k_H g ad (set_m_dm t (va_up (m_dm t) k v)) H := by
  subst hx; rw [k_fnB] at h; exact k_to (ks_m_dm g ad t _) rfl h
theorem ks_m_pv (g : k_g) (ad : k_AD) (t : k_T) (v : Nat → Bool) : ∀ a b, ¬ (a = 19 ∧ b = 0) → k_ct g ad (set_m_pv t v) a b = k_ct g ad t a b := by
  intro a b h
  match a with
  | 0 => rfl
  | 1 => rfl
  | 2 => rfl
  | 3 => rfl
  | 4 => rfl
  | 5 => rfl
  | 6 => rfl
  | 7 => rfl
  | 8 => rfl
  | 9 => rfl
  | 10 => rfl
  | 11 => rfl
  | 12 => rfl
  | 13 => rfl
  | 14 => rfl
  | 15 => rfl
  | 16 => rfl
  | 17 => rfl
  | 18 => rfl
  | 19 => match b with | 0 => exact absurd ⟨rfl, rfl⟩ h | b + 1 => rfl
  | 20 => rfl
  | 21 => rfl
  | 22 => rfl
  | 23 => rfl
  | 24 => rfl
  | 25 => rfl
  | 26 => rfl
  | _ + 27 => rfl
theorem kt_m_pv {g : k_g} {ad : k_AD} {t : k_T} {H : Heap} (k : Nat) (v : Bool) {x : Int32} (hx : x = kb v) (h : k_Wd g (k_up (k_ct g ad t) 19 0 (.inl (g.2.1 1, 60, .inl (upd (fun j => kb (m_pv t j)) k x)))) ad H) : k_H g ad (set_m_pv t (va_up (m_pv t) k v)) H := by
  subst hx; rw [k_fnB] at h; exact k_to (ks_m_pv g ad t _) rfl h
theorem ks_m_pm (g : k_g) (ad : k_AD) (t : k_T) (v : Nat → Bool) : ∀ a b, ¬ (a = 20 ∧ b = 0) → k_ct g ad (set_m_pm t v) a b = k_ct g ad t a b := by
  intro a b h
  match a with
  | 0 => rfl
  | 1 => rfl
  | 2 => rfl
  | 3 => rfl
  | 4 => rfl
  | 5 => rfl
  | 6 => rfl
  | 7 => rfl
  | 8 => rfl
  | 9 => rfl
  | 10 => rfl
  | 11 => rfl
  | 12 => rfl
  | 13 => rfl
  | 14 => rfl
  | 15 => rfl
  | 16 => rfl
  | 17 => rfl
  | 18 => rfl
  | 19 => rfl
  | 20 => match b with | 0 => exact absurd ⟨rfl, rfl⟩ h | b + 1 => rfl
  | 21 => rfl
  | 22 => rfl
  | 23 => rfl
  | 24 => rfl
  | 25 => rfl
  | 26 => rfl
  | _ + 27 => rfl
theorem kt_m_pm {g : k_g} {ad : k_AD} {t : k_T} {H : Heap} (k : Nat) (v : Bool) {x : Int32} (hx : x = kb v) (h : k_Wd g (k_up (k_ct g ad t) 20 0 (.inl (g.2.1 1, 60, .inl (upd (fun j => kb (m_pm t j)) k x)))) ad H) : k_H g ad (set_m_pm t (va_up (m_pm t) k v)) H := by
  subst hx; rw [k_fnB] at h; exact k_to (ks_m_pm g ad t _) rfl h
theorem ks_m_nd (g : k_g) (ad : k_AD) (t : k_T) (v : Nat → Bool) : ∀ a b, ¬ (a = 21 ∧ b = 0) → k_ct g ad (set_m_nd t v) a b = k_ct g ad t a b := by
  intro a b h
  match a with
  | 0 => rfl
  | 1 => rfl
  | 2 => rfl
  | 3 => rfl
  | 4 => rfl
  | 5 => rfl
  | 6 => rfl
  | 7 => rfl
  | 8 => rfl
  | 9 => rfl
  | 10 => rfl
  | 11 => rfl
  | 12 => rfl
  | 13 => rfl
  | 14 => rfl
  | 15 => rfl
  | 16 => rfl
  | 17 => rfl
  | 18 => rfl
  | 19 => rfl
  | 20 => rfl
  | 21 => match b with | 0 => exact absurd ⟨rfl, rfl⟩ h | b + 1 => rfl
  | 22 => rfl
  | 23 => rfl
  | 24 => rfl
  | 25 => rfl
  | 26 => rfl
  | _ + 27 => rfl
theorem kt_m_nd {g : k_g} {ad : k_AD} {t : k_T} {H : Heap} (k : Nat) (v : Bool) {x : Int32} (hx : x = kb v) (h : k_Wd g (k_up (k_ct g ad t) 21 0 (.inl (g.2.1 1, 60, .inl (upd (fun j => kb (m_nd t j)) k x)))) ad H) : k_H g ad (set_m_nd t (va_up (m_nd t) k v)) H := by
  subst hx; rw [k_fnB] at h; exact k_to (ks_m_nd g ad t _) rfl h
theorem ks_m_ls (g : k_g) (ad : k_AD) (t : k_T) (v : Nat → Bool) : ∀ a b, ¬ (a = 22 ∧ b = 0) → k_ct g ad (set_m_ls t v) a b = k_ct g ad t a b := by
  intro a b h
  match a with
  | 0 => rfl
  | 1 => rfl
  | 2 => rfl
  | 3 => rfl
  | 4 => rfl
  | 5 => rfl
  | 6 => rfl
  | 7 => rfl
  | 8 => rfl
  | 9 => rfl
  | 10 => rfl
  | 11 => rfl
  | 12 => rfl
  | 13 => rfl
  | 14 => rfl
  | 15 => rfl
  | 16 => rfl
  | 17 => rfl
  | 18 => rfl
  | 19 => rfl
  | 20 => rfl
  | 21 => rfl
  | 22 => match b with | 0 => exact absurd ⟨rfl, rfl⟩ h | b + 1 => rfl
  | 23 => rfl
  | 24 => rfl
  | 25 => rfl
  | 26 => rfl
  | _ + 27 => rfl
theorem kt_m_ls {g : k_g} {ad : k_AD} {t : k_T} {H : Heap} (k : Nat) (v : Bool) {x : Int32} (hx : x = kb v) (h : k_Wd g (k_up (k_ct g ad t) 22 0 (.inl (g.2.1 1, 60, .inl (upd (fun j => kb (m_ls t j)) k x)))) ad H) : k_H g ad (set_m_ls t (va_up (m_ls t) k v)) H := by
  subst hx; rw [k_fnB] at h; exact k_to (ks_m_ls g ad t _) rfl h
theorem ks_m_rt (g : k_g) (ad : k_AD) (t : k_T) (v : Nat → Nat) : ∀ a b, ¬ (a = 23 ∧ b = 0) → k_ct g ad (set_m_rt t v) a b = k_ct g ad t a b := by
  intro a b h
  match a with
  | 0 => rfl
  | 1 => rfl
  | 2 => rfl
  | 3 => rfl
  | 4 => rfl
  | 5 => rfl
  | 6 => rfl
  | 7 => rfl
  | 8 => rfl
  | 9 => rfl
  | 10 => rfl
  | 11 => rfl
  | 12 => rfl
  | 13 => rfl
  | 14 => rfl
  | 15 => rfl
  | 16 => rfl
  | 17 => rfl
  | 18 => rfl
  | 19 => rfl
  | 20 => rfl
  | 21 => rfl
  | 22 => rfl
  | 23 => match b with | 0 => exact absurd ⟨rfl, rfl⟩ h | b + 1 => rfl
  | 24 => rfl
  | 25 => rfl
  | 26 => rfl
  | _ + 27 => rfl
theorem kt_m_rt {g : k_g} {ad : k_AD} {t : k_T} {H : Heap} (k : Nat) (v : Nat) {x : Int32} (hx : x = nI v) (h : k_Wd g (k_up (k_ct g ad t) 23 0 (.inl (g.2.1 0, 365, .inl (upd (fun j => nI (m_rt t j)) k x)))) ad H) : k_H g ad (set_m_rt t (va_up (m_rt t) k v)) H := by
  subst hx; rw [k_fnN] at h; exact k_to (ks_m_rt g ad t _) rfl h
theorem ks_l_o (g : k_g) (ad : k_AD) (t : k_T) (v : Nat → Int64) : ∀ a b, ¬ (a = 24 ∧ b = 0) → k_ct g ad (set_l_o t v) a b = k_ct g ad t a b := by
  intro a b h
  match a with
  | 0 => rfl
  | 1 => rfl
  | 2 => rfl
  | 3 => rfl
  | 4 => rfl
  | 5 => rfl
  | 6 => rfl
  | 7 => rfl
  | 8 => rfl
  | 9 => rfl
  | 10 => rfl
  | 11 => rfl
  | 12 => rfl
  | 13 => rfl
  | 14 => rfl
  | 15 => rfl
  | 16 => rfl
  | 17 => rfl
  | 18 => rfl
  | 19 => rfl
  | 20 => rfl
  | 21 => rfl
  | 22 => rfl
  | 23 => rfl
  | 24 => match b with | 0 => exact absurd ⟨rfl, rfl⟩ h | b + 1 => rfl
  | 25 => rfl
  | 26 => rfl
  | _ + 27 => rfl
theorem kt_l_o {g : k_g} {ad : k_AD} {t : k_T} {H : Heap} (k : Nat) (x : Int64) (h : k_Wd g (k_up (k_ct g ad t) 24 0 (.inl (g.2.1 2, 1, .inr (.inl (va_up (l_o t) k x))))) ad H) : k_H g ad (set_l_o t (va_up (l_o t) k x)) H := k_to (ks_l_o g ad t _) rfl h
theorem ks_o_on (g : k_g) (ad : k_AD) (t : k_T) (k : Nat) (v : Nat) : ∀ a b, ¬ (a = 25 ∧ b = k) → k_ct g ad (set_o_on t (va_up (o_on t) k v)) a b = k_ct g ad t a b := by
  intro a b h
  match a with
  | 0 => rfl
  | 1 => rfl
  | 2 => rfl
  | 3 => rfl
  | 4 => rfl
  | 5 => rfl
  | 6 => rfl
  | 7 => rfl
  | 8 => rfl
  | 9 => rfl
  | 10 => rfl
  | 11 => rfl
  | 12 => rfl
  | 13 => rfl
  | 14 => rfl
  | 15 => rfl
  | 16 => rfl
  | 17 => rfl
  | 18 => rfl
  | 19 => rfl
  | 20 => rfl
  | 21 => rfl
  | 22 => rfl
  | 23 => rfl
  | 24 => rfl
  | 25 => have hb : b ≠ k := fun q => h ⟨rfl, q⟩
          show (if b < o_n t then (some (.inr (0, [.int (nI b), .int (nI (va_up (o_on t) k v b)), va_rf ((o_b t b).map (ad 25)), .int (nI (o_ca t b)), .ref (ad 26 b), .int (nI (o_kc t b)), .int (kb (o_dm t b)), .int (kb (o_pv t b)), .int (kb (o_pm t b)), .int (kb (o_nd t b)), .int (kb (o_hd t b))])) : Option va_E) else none) = _
          rw [va_up_ne _ _ hb]; rfl
  | 26 => rfl
  | _ + 27 => rfl
theorem kt_o_on {g : k_g} {ad : k_AD} {t : k_T} {H : Heap} (k : Nat) (hk : k < o_n t) (v : Nat) {x : Int32} (hx : x = nI v) (h : k_Wd g (k_up (k_ct g ad t) 25 k (.inr (0, [.int (nI k), .int x, va_rf ((o_b t k).map (ad 25)), .int (nI (o_ca t k)), .ref (ad 26 k), .int (nI (o_kc t k)), .int (kb (o_dm t k)), .int (kb (o_pv t k)), .int (kb (o_pm t k)), .int (kb (o_nd t k)), .int (kb (o_hd t k))]))) ad H) : k_H g ad (set_o_on t (va_up (o_on t) k v)) H := by
  subst hx
  refine k_to (ks_o_on g ad t k v) ?_ h
  refine (if_pos hk).trans ?_
  show (some (.inr (0, [.int (nI k), .int (nI (va_up (o_on t) k v k)), va_rf ((o_b t k).map (ad 25)), .int (nI (o_ca t k)), .ref (ad 26 k), .int (nI (o_kc t k)), .int (kb (o_dm t k)), .int (kb (o_pv t k)), .int (kb (o_pm t k)), .int (kb (o_nd t k)), .int (kb (o_hd t k))])) : Option va_E) = _
  rw [va_up_self]
theorem ks_o_ca (g : k_g) (ad : k_AD) (t : k_T) (k : Nat) (v : Nat) : ∀ a b, ¬ (a = 25 ∧ b = k) → k_ct g ad (set_o_ca t (va_up (o_ca t) k v)) a b = k_ct g ad t a b := by
  intro a b h
  match a with
  | 0 => rfl
  | 1 => rfl
  | 2 => rfl
  | 3 => rfl
  | 4 => rfl
  | 5 => rfl
  | 6 => rfl
  | 7 => rfl
  | 8 => rfl
  | 9 => rfl
  | 10 => rfl
  | 11 => rfl
  | 12 => rfl
  | 13 => rfl
  | 14 => rfl
  | 15 => rfl
  | 16 => rfl
  | 17 => rfl
  | 18 => rfl
  | 19 => rfl
  | 20 => rfl
  | 21 => rfl
  | 22 => rfl
  | 23 => rfl
  | 24 => rfl
  | 25 => have hb : b ≠ k := fun q => h ⟨rfl, q⟩
          show (if b < o_n t then (some (.inr (0, [.int (nI b), .int (nI (o_on t b)), va_rf ((o_b t b).map (ad 25)), .int (nI (va_up (o_ca t) k v b)), .ref (ad 26 b), .int (nI (o_kc t b)), .int (kb (o_dm t b)), .int (kb (o_pv t b)), .int (kb (o_pm t b)), .int (kb (o_nd t b)), .int (kb (o_hd t b))])) : Option va_E) else none) = _
          rw [va_up_ne _ _ hb]; rfl
  | 26 => rfl
  | _ + 27 => rfl
theorem kt_o_ca {g : k_g} {ad : k_AD} {t : k_T} {H : Heap} (k : Nat) (hk : k < o_n t) (v : Nat) {x : Int32} (hx : x = nI v) (h : k_Wd g (k_up (k_ct g ad t) 25 k (.inr (0, [.int (nI k), .int (nI (o_on t k)), va_rf ((o_b t k).map (ad 25)), .int x, .ref (ad 26 k), .int (nI (o_kc t k)), .int (kb (o_dm t k)), .int (kb (o_pv t k)), .int (kb (o_pm t k)), .int (kb (o_nd t k)), .int (kb (o_hd t k))]))) ad H) : k_H g ad (set_o_ca t (va_up (o_ca t) k v)) H := by
  subst hx
  refine k_to (ks_o_ca g ad t k v) ?_ h
  refine (if_pos hk).trans ?_
  show (some (.inr (0, [.int (nI k), .int (nI (o_on t k)), va_rf ((o_b t k).map (ad 25)), .int (nI (va_up (o_ca t) k v k)), .ref (ad 26 k), .int (nI (o_kc t k)), .int (kb (o_dm t k)), .int (kb (o_pv t k)), .int (kb (o_pm t k)), .int (kb (o_nd t k)), .int (kb (o_hd t k))])) : Option va_E) = _
  rw [va_up_self]
theorem ks_o_kc (g : k_g) (ad : k_AD) (t : k_T) (k : Nat) (v : Nat) : ∀ a b, ¬ (a = 25 ∧ b = k) → k_ct g ad (set_o_kc t (va_up (o_kc t) k v)) a b = k_ct g ad t a b := by
  intro a b h
  match a with
  | 0 => rfl
  | 1 => rfl
  | 2 => rfl
  | 3 => rfl
  | 4 => rfl
  | 5 => rfl
  | 6 => rfl
  | 7 => rfl
  | 8 => rfl
  | 9 => rfl
  | 10 => rfl
  | 11 => rfl
  | 12 => rfl
  | 13 => rfl
  | 14 => rfl
  | 15 => rfl
  | 16 => rfl
  | 17 => rfl
  | 18 => rfl
  | 19 => rfl
  | 20 => rfl
  | 21 => rfl
  | 22 => rfl
  | 23 => rfl
  | 24 => rfl
  | 25 => have hb : b ≠ k := fun q => h ⟨rfl, q⟩
          show (if b < o_n t then (some (.inr (0, [.int (nI b), .int (nI (o_on t b)), va_rf ((o_b t b).map (ad 25)), .int (nI (o_ca t b)), .ref (ad 26 b), .int (nI (va_up (o_kc t) k v b)), .int (kb (o_dm t b)), .int (kb (o_pv t b)), .int (kb (o_pm t b)), .int (kb (o_nd t b)), .int (kb (o_hd t b))])) : Option va_E) else none) = _
          rw [va_up_ne _ _ hb]; rfl
  | 26 => rfl
  | _ + 27 => rfl
theorem kt_o_kc {g : k_g} {ad : k_AD} {t : k_T} {H : Heap} (k : Nat) (hk : k < o_n t) (v : Nat) {x : Int32} (hx : x = nI v) (h : k_Wd g (k_up (k_ct g ad t) 25 k (.inr (0, [.int (nI k), .int (nI (o_on t k)), va_rf ((o_b t k).map (ad 25)), .int (nI (o_ca t k)), .ref (ad 26 k), .int x, .int (kb (o_dm t k)), .int (kb (o_pv t k)), .int (kb (o_pm t k)), .int (kb (o_nd t k)), .int (kb (o_hd t k))]))) ad H) : k_H g ad (set_o_kc t (va_up (o_kc t) k v)) H := by
  subst hx
  refine k_to (ks_o_kc g ad t k v) ?_ h
  refine (if_pos hk).trans ?_
  show (some (.inr (0, [.int (nI k), .int (nI (o_on t k)), va_rf ((o_b t k).map (ad 25)), .int (nI (o_ca t k)), .ref (ad 26 k), .int (nI (va_up (o_kc t) k v k)), .int (kb (o_dm t k)), .int (kb (o_pv t k)), .int (kb (o_pm t k)), .int (kb (o_nd t k)), .int (kb (o_hd t k))])) : Option va_E) = _
  rw [va_up_self]
theorem ks_o_dm (g : k_g) (ad : k_AD) (t : k_T) (k : Nat) (v : Bool) : ∀ a b, ¬ (a = 25 ∧ b = k) → k_ct g ad (set_o_dm t (va_up (o_dm t) k v)) a b = k_ct g ad t a b := by
  intro a b h
  match a with
  | 0 => rfl
  | 1 => rfl
  | 2 => rfl
  | 3 => rfl
  | 4 => rfl
  | 5 => rfl
  | 6 => rfl
  | 7 => rfl
  | 8 => rfl
  | 9 => rfl
  | 10 => rfl
  | 11 => rfl
  | 12 => rfl
  | 13 => rfl
  | 14 => rfl
  | 15 => rfl
  | 16 => rfl
  | 17 => rfl
  | 18 => rfl
  | 19 => rfl
  | 20 => rfl
  | 21 => rfl
  | 22 => rfl
  | 23 => rfl
  | 24 => rfl
  | 25 => have hb : b ≠ k := fun q => h ⟨rfl, q⟩
          show (if b < o_n t then (some (.inr (0, [.int (nI b), .int (nI (o_on t b)), va_rf ((o_b t b).map (ad 25)), .int (nI (o_ca t b)), .ref (ad 26 b), .int (nI (o_kc t b)), .int (kb (va_up (o_dm t) k v b)), .int (kb (o_pv t b)), .int (kb (o_pm t b)), .int (kb (o_nd t b)), .int (kb (o_hd t b))])) : Option va_E) else none) = _
          rw [va_up_ne _ _ hb]; rfl
  | 26 => rfl
  | _ + 27 => rfl
theorem kt_o_dm {g : k_g} {ad : k_AD} {t : k_T} {H : Heap} (k : Nat) (hk : k < o_n t) (v : Bool) {x : Int32} (hx : x = kb v) (h : k_Wd g (k_up (k_ct g ad t) 25 k (.inr (0, [.int (nI k), .int (nI (o_on t k)), va_rf ((o_b t k).map (ad 25)), .int (nI (o_ca t k)), .ref (ad 26 k), .int (nI (o_kc t k)), .int x, .int (kb (o_pv t k)), .int (kb (o_pm t k)), .int (kb (o_nd t k)), .int (kb (o_hd t k))]))) ad H) : k_H g ad (set_o_dm t (va_up (o_dm t) k v)) H := by
  subst hx
  refine k_to (ks_o_dm g ad t k v) ?_ h
  refine (if_pos hk).trans ?_
  show (some (.inr (0, [.int (nI k), .int (nI (o_on t k)), va_rf ((o_b t k).map (ad 25)), .int (nI (o_ca t k)), .ref (ad 26 k), .int (nI (o_kc t k)), .int (kb (va_up (o_dm t) k v k)), .int (kb (o_pv t k)), .int (kb (o_pm t k)), .int (kb (o_nd t k)), .int (kb (o_hd t k))])) : Option va_E) = _
  rw [va_up_self]
theorem ks_o_pv (g : k_g) (ad : k_AD) (t : k_T) (k : Nat) (v : Bool) : ∀ a b, ¬ (a = 25 ∧ b = k) → k_ct g ad (set_o_pv t (va_up (o_pv t) k v)) a b = k_ct g ad t a b := by
  intro a b h
  match a with
  | 0 => rfl
  | 1 => rfl
  | 2 => rfl
  | 3 => rfl
  | 4 => rfl
  | 5 => rfl
  | 6 => rfl
  | 7 => rfl
  | 8 => rfl
  | 9 => rfl
  | 10 => rfl
  | 11 => rfl
  | 12 => rfl
  | 13 => rfl
  | 14 => rfl
  | 15 => rfl
  | 16 => rfl
  | 17 => rfl
  | 18 => rfl
  | 19 => rfl
  | 20 => rfl
  | 21 => rfl
  | 22 => rfl
  | 23 => rfl
  | 24 => rfl
  | 25 => have hb : b ≠ k := fun q => h ⟨rfl, q⟩
          show (if b < o_n t then (some (.inr (0, [.int (nI b), .int (nI (o_on t b)), va_rf ((o_b t b).map (ad 25)), .int (nI (o_ca t b)), .ref (ad 26 b), .int (nI (o_kc t b)), .int (kb (o_dm t b)), .int (kb (va_up (o_pv t) k v b)), .int (kb (o_pm t b)), .int (kb (o_nd t b)), .int (kb (o_hd t b))])) : Option va_E) else none) = _
          rw [va_up_ne _ _ hb]; rfl
  | 26 => rfl
  | _ + 27 => rfl
theorem kt_o_pv {g : k_g} {ad : k_AD} {t : k_T} {H : Heap} (k : Nat) (hk : k < o_n t) (v : Bool) {x : Int32} (hx : x = kb v) (h : k_Wd g (k_up (k_ct g ad t) 25 k (.inr (0, [.int (nI k), .int (nI (o_on t k)), va_rf ((o_b t k).map (ad 25)), .int (nI (o_ca t k)), .ref (ad 26 k), .int (nI (o_kc t k)), .int (kb (o_dm t k)), .int x, .int (kb (o_pm t k)), .int (kb (o_nd t k)), .int (kb (o_hd t k))]))) ad H) : k_H g ad (set_o_pv t (va_up (o_pv t) k v)) H := by
  subst hx
  refine k_to (ks_o_pv g ad t k v) ?_ h
  refine (if_pos hk).trans ?_
  show (some (.inr (0, [.int (nI k), .int (nI (o_on t k)), va_rf ((o_b t k).map (ad 25)), .int (nI (o_ca t k)), .ref (ad 26 k), .int (nI (o_kc t k)), .int (kb (o_dm t k)), .int (kb (va_up (o_pv t) k v k)), .int (kb (o_pm t k)), .int (kb (o_nd t k)), .int (kb (o_hd t k))])) : Option va_E) = _
  rw [va_up_self]
theorem ks_o_pm (g : k_g) (ad : k_AD) (t : k_T) (k : Nat) (v : Bool) : ∀ a b, ¬ (a = 25 ∧ b = k) → k_ct g ad (set_o_pm t (va_up (o_pm t) k v)) a b = k_ct g ad t a b := by
  intro a b h
  match a with
  | 0 => rfl
  | 1 => rfl
  | 2 => rfl
  | 3 => rfl
  | 4 => rfl
  | 5 => rfl
  | 6 => rfl
  | 7 => rfl
  | 8 => rfl
  | 9 => rfl
  | 10 => rfl
  | 11 => rfl
  | 12 => rfl
  | 13 => rfl
  | 14 => rfl
  | 15 => rfl
  | 16 => rfl
  | 17 => rfl
  | 18 => rfl
  | 19 => rfl
  | 20 => rfl
  | 21 => rfl
  | 22 => rfl
  | 23 => rfl
  | 24 => rfl
  | 25 => have hb : b ≠ k := fun q => h ⟨rfl, q⟩
          show (if b < o_n t then (some (.inr (0, [.int (nI b), .int (nI (o_on t b)), va_rf ((o_b t b).map (ad 25)), .int (nI (o_ca t b)), .ref (ad 26 b), .int (nI (o_kc t b)), .int (kb (o_dm t b)), .int (kb (o_pv t b)), .int (kb (va_up (o_pm t) k v b)), .int (kb (o_nd t b)), .int (kb (o_hd t b))])) : Option va_E) else none) = _
          rw [va_up_ne _ _ hb]; rfl
  | 26 => rfl
  | _ + 27 => rfl
theorem kt_o_pm {g : k_g} {ad : k_AD} {t : k_T} {H : Heap} (k : Nat) (hk : k < o_n t) (v : Bool) {x : Int32} (hx : x = kb v) (h : k_Wd g (k_up (k_ct g ad t) 25 k (.inr (0, [.int (nI k), .int (nI (o_on t k)), va_rf ((o_b t k).map (ad 25)), .int (nI (o_ca t k)), .ref (ad 26 k), .int (nI (o_kc t k)), .int (kb (o_dm t k)), .int (kb (o_pv t k)), .int x, .int (kb (o_nd t k)), .int (kb (o_hd t k))]))) ad H) : k_H g ad (set_o_pm t (va_up (o_pm t) k v)) H := by
  subst hx
  refine k_to (ks_o_pm g ad t k v) ?_ h
  refine (if_pos hk).trans ?_
  show (some (.inr (0, [.int (nI k), .int (nI (o_on t k)), va_rf ((o_b t k).map (ad 25)), .int (nI (o_ca t k)), .ref (ad 26 k), .int (nI (o_kc t k)), .int (kb (o_dm t k)), .int (kb (o_pv t k)), .int (kb (va_up (o_pm t) k v k)), .int (kb (o_nd t k)), .int (kb (o_hd t k))])) : Option va_E) = _
  rw [va_up_self]
theorem ks_o_nd (g : k_g) (ad : k_AD) (t : k_T) (k : Nat) (v : Bool) : ∀ a b, ¬ (a = 25 ∧ b = k) → k_ct g ad (set_o_nd t (va_up (o_nd t) k v)) a b = k_ct g ad t a b := by
  intro a b h
  match a with
  | 0 => rfl
  | 1 => rfl
  | 2 => rfl
  | 3 => rfl
  | 4 => rfl
  | 5 => rfl
  | 6 => rfl
  | 7 => rfl
  | 8 => rfl
  | 9 => rfl
  | 10 => rfl
  | 11 => rfl
  | 12 => rfl
  | 13 => rfl
  | 14 => rfl
  | 15 => rfl
  | 16 => rfl
  | 17 => rfl
  | 18 => rfl
  | 19 => rfl
  | 20 => rfl
  | 21 => rfl
  | 22 => rfl
  | 23 => rfl
  | 24 => rfl
  | 25 => have hb : b ≠ k := fun q => h ⟨rfl, q⟩
          show (if b < o_n t then (some (.inr (0, [.int (nI b), .int (nI (o_on t b)), va_rf ((o_b t b).map (ad 25)), .int (nI (o_ca t b)), .ref (ad 26 b), .int (nI (o_kc t b)), .int (kb (o_dm t b)), .int (kb (o_pv t b)), .int (kb (o_pm t b)), .int (kb (va_up (o_nd t) k v b)), .int (kb (o_hd t b))])) : Option va_E) else none) = _
          rw [va_up_ne _ _ hb]; rfl
  | 26 => rfl
  | _ + 27 => rfl
theorem kt_o_nd {g : k_g} {ad : k_AD} {t : k_T} {H : Heap} (k : Nat) (hk : k < o_n t) (v : Bool) {x : Int32} (hx : x = kb v) (h : k_Wd g (k_up (k_ct g ad t) 25 k (.inr (0, [.int (nI k), .int (nI (o_on t k)), va_rf ((o_b t k).map (ad 25)), .int (nI (o_ca t k)), .ref (ad 26 k), .int (nI (o_kc t k)), .int (kb (o_dm t k)), .int (kb (o_pv t k)), .int (kb (o_pm t k)), .int x, .int (kb (o_hd t k))]))) ad H) : k_H g ad (set_o_nd t (va_up (o_nd t) k v)) H := by
  subst hx
  refine k_to (ks_o_nd g ad t k v) ?_ h
  refine (if_pos hk).trans ?_
  show (some (.inr (0, [.int (nI k), .int (nI (o_on t k)), va_rf ((o_b t k).map (ad 25)), .int (nI (o_ca t k)), .ref (ad 26 k), .int (nI (o_kc t k)), .int (kb (o_dm t k)), .int (kb (o_pv t k)), .int (kb (o_pm t k)), .int (kb (va_up (o_nd t) k v k)), .int (kb (o_hd t k))])) : Option va_E) = _
  rw [va_up_self]
theorem ks_o_hd (g : k_g) (ad : k_AD) (t : k_T) (k : Nat) (v : Bool) : ∀ a b, ¬ (a = 25 ∧ b = k) → k_ct g ad (set_o_hd t (va_up (o_hd t) k v)) a b = k_ct g ad t a b := by
  intro a b h
  match a with
  | 0 => rfl
  | 1 => rfl
  | 2 => rfl
  | 3 => rfl
  | 4 => rfl
  | 5 => rfl
  | 6 => rfl
  | 7 => rfl
  | 8 => rfl
  | 9 => rfl
  | 10 => rfl
  | 11 => rfl
  | 12 => rfl
  | 13 => rfl
  | 14 => rfl
  | 15 => rfl
  | 16 => rfl
  | 17 => rfl
  | 18 => rfl
  | 19 => rfl
  | 20 => rfl
  | 21 => rfl
  | 22 => rfl
  | 23 => rfl
  | 24 => rfl
  | 25 => have hb : b ≠ k := fun q => h ⟨rfl, q⟩
          show (if b < o_n t then (some (.inr (0, [.int (nI b), .int (nI (o_on t b)), va_rf ((o_b t b).map (ad 25)), .int (nI (o_ca t b)), .ref (ad 26 b), .int (nI (o_kc t b)), .int (kb (o_dm t b)), .int (kb (o_pv t b)), .int (kb (o_pm t b)), .int (kb (o_nd t b)), .int (kb (va_up (o_hd t) k v b))])) : Option va_E) else none) = _
          rw [va_up_ne _ _ hb]; rfl
  | 26 => rfl
  | _ + 27 => rfl
theorem kt_o_hd {g : k_g} {ad : k_AD} {t : k_T} {H : Heap} (k : Nat) (hk : k < o_n t) (v : Bool) {x : Int32} (hx : x = kb v) (h : k_Wd g (k_up (k_ct g ad t) 25 k (.inr (0, [.int (nI k), .int (nI (o_on t k)), va_rf ((o_b t k).map (ad 25)), .int (nI (o_ca t k)), .ref (ad 26 k), .int (nI (o_kc t k)), .int (kb (o_dm t k)), .int (kb (o_pv t k)), .int (kb (o_pm t k)), .int (kb (o_nd t k)), .int x]))) ad H) : k_H g ad (set_o_hd t (va_up (o_hd t) k v)) H := by
  subst hx
  refine k_to (ks_o_hd g ad t k v) ?_ h
  refine (if_pos hk).trans ?_
  show (some (.inr (0, [.int (nI k), .int (nI (o_on t k)), va_rf ((o_b t k).map (ad 25)), .int (nI (o_ca t k)), .ref (ad 26 k), .int (nI (o_kc t k)), .int (kb (o_dm t k)), .int (kb (o_pv t k)), .int (kb (o_pm t k)), .int (kb (o_nd t k)), .int (kb (va_up (o_hd t) k v k))])) : Option va_E) = _
  rw [va_up_self]
theorem ks_o_k (g : k_g) (ad : k_AD) (t : k_T) (k : Nat) (v : Nat → Int32) : ∀ a b, ¬ (a = 26 ∧ b = k) → k_ct g ad (set_o_k t (va_up (o_k t) k v)) a b = k_ct g ad t a b := by
  intro a b h
  match a with
  | 0 => rfl
  | 1 => rfl
  | 2 => rfl
  | 3 => rfl
  | 4 => rfl
  | 5 => rfl
  | 6 => rfl
  | 7 => rfl
  | 8 => rfl
  | 9 => rfl
  | 10 => rfl
  | 11 => rfl
  | 12 => rfl
  | 13 => rfl
  | 14 => rfl
  | 15 => rfl
  | 16 => rfl
  | 17 => rfl
  | 18 => rfl
  | 19 => rfl
  | 20 => rfl
  | 21 => rfl
  | 22 => rfl
  | 23 => rfl
  | 24 => rfl
  | 25 => rfl
  | 26 => have hb : b ≠ k := fun q => h ⟨rfl, q⟩
          show (if b < o_n t then (some (.inl (g.2.1 0, 10, .inl (va_up (o_k t) k v b))) : Option va_E) else none) = _
          rw [va_up_ne _ _ hb]; rfl
  | _ + 27 => rfl
theorem kt_o_k {g : k_g} {ad : k_AD} {t : k_T} {H : Heap} (k : Nat) (hk : k < o_n t) (j : Nat) (x : Int32) (h : k_Wd g (k_up (k_ct g ad t) 26 k (.inl (g.2.1 0, 10, .inl (upd (o_k t k) j x)))) ad H) : k_H g ad (set_o_k t (va_up (o_k t) k (va_up (o_k t k) j x))) H := by
  refine k_to (ks_o_k g ad t k _) ?_ h
  refine (if_pos hk).trans ?_
  show (some (.inl (g.2.1 0, 10, .inl (va_up (o_k t) k (va_up (o_k t k) j x) k))) : Option va_E) = _
  rw [va_up_self]; rfl
