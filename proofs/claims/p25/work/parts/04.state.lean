abbrev k_TF : Type := (Nat → Int32) × (Nat → Nat) × (Nat → Int32) × (Nat) × (Nat)
abbrev k_TS : Type := (Nat → Bool) × (Nat) × (Nat) × (Nat) × (Nat) × (Nat → Nat)
abbrev k_TO : Type := (Nat) × (Nat → Nat) × (Nat → Option Nat) × (Nat → Nat) × (Nat → Nat → Int32) × (Nat → Nat) × (Nat → Bool) × (Nat → Bool) × (Nat → Bool) × (Nat → Bool) × (Nat → Bool)
abbrev k_TW : Type := (Nat → Int32) × (Nat → Int32) × (Nat → Int32) × (Nat → Int32) × (Nat → Int32)
abbrev k_T : Type := k_TF × k_TS × k_TO × k_TW
abbrev f_c (t : k_T) : Nat → Int32 := t.1.1
abbrev set_f_c (t : k_T) (v : Nat → Int32) : k_T := ((v, t.1.2.1, t.1.2.2.1, t.1.2.2.2.1, t.1.2.2.2.2), t.2.1, t.2.2.1, t.2.2.2)
abbrev f_lf (t : k_T) : Nat → Nat := t.1.2.1
abbrev set_f_lf (t : k_T) (v : Nat → Nat) : k_T := ((t.1.1, v, t.1.2.2.1, t.1.2.2.2.1, t.1.2.2.2.2), t.2.1, t.2.2.1, t.2.2.2)
abbrev f_lt (t : k_T) : Nat → Int32 := t.1.2.2.1
abbrev set_f_lt (t : k_T) (v : Nat → Int32) : k_T := ((t.1.1, t.1.2.1, v, t.1.2.2.2.1, t.1.2.2.2.2), t.2.1, t.2.2.1, t.2.2.2)
abbrev f_n (t : k_T) : Nat := t.1.2.2.2.1
abbrev set_f_n (t : k_T) (v : Nat) : k_T := ((t.1.1, t.1.2.1, t.1.2.2.1, v, t.1.2.2.2.2), t.2.1, t.2.2.1, t.2.2.2)
abbrev x_d (t : k_T) : Nat := t.1.2.2.2.2
abbrev set_x_d (t : k_T) (v : Nat) : k_T := ((t.1.1, t.1.2.1, t.1.2.2.1, t.1.2.2.2.1, v), t.2.1, t.2.2.1, t.2.2.2)
abbrev s_th (t : k_T) : Nat → Bool := t.2.1.1
abbrev set_s_th (t : k_T) (v : Nat → Bool) : k_T := (t.1, (v, t.2.1.2.1, t.2.1.2.2.1, t.2.1.2.2.2.1, t.2.1.2.2.2.2.1, t.2.1.2.2.2.2.2), t.2.2.1, t.2.2.2)
abbrev s_md (t : k_T) : Nat := t.2.1.2.1
abbrev set_s_md (t : k_T) (v : Nat) : k_T := (t.1, (t.2.1.1, v, t.2.1.2.2.1, t.2.1.2.2.2.1, t.2.1.2.2.2.2.1, t.2.1.2.2.2.2.2), t.2.2.1, t.2.2.2)
abbrev s_r1 (t : k_T) : Nat := t.2.1.2.2.1
abbrev set_s_r1 (t : k_T) (v : Nat) : k_T := (t.1, (t.2.1.1, t.2.1.2.1, v, t.2.1.2.2.2.1, t.2.1.2.2.2.2.1, t.2.1.2.2.2.2.2), t.2.2.1, t.2.2.2)
abbrev s_r2 (t : k_T) : Nat := t.2.1.2.2.2.1
abbrev set_s_r2 (t : k_T) (v : Nat) : k_T := (t.1, (t.2.1.1, t.2.1.2.1, t.2.1.2.2.1, v, t.2.1.2.2.2.2.1, t.2.1.2.2.2.2.2), t.2.2.1, t.2.2.2)
abbrev s_r3 (t : k_T) : Nat := t.2.1.2.2.2.2.1
abbrev set_s_r3 (t : k_T) (v : Nat) : k_T := (t.1, (t.2.1.1, t.2.1.2.1, t.2.1.2.2.1, t.2.1.2.2.2.1, v, t.2.1.2.2.2.2.2), t.2.2.1, t.2.2.2)
abbrev r_p (t : k_T) : Nat → Nat := t.2.1.2.2.2.2.2
abbrev set_r_p (t : k_T) (v : Nat → Nat) : k_T := (t.1, (t.2.1.1, t.2.1.2.1, t.2.1.2.2.1, t.2.1.2.2.2.1, t.2.1.2.2.2.2.1, v), t.2.2.1, t.2.2.2)
abbrev o_n (t : k_T) : Nat := t.2.2.1.1
abbrev set_o_n (t : k_T) (v : Nat) : k_T := (t.1, t.2.1, (v, t.2.2.1.2.1, t.2.2.1.2.2.1, t.2.2.1.2.2.2.1, t.2.2.1.2.2.2.2.1, t.2.2.1.2.2.2.2.2.1, t.2.2.1.2.2.2.2.2.2.1, t.2.2.1.2.2.2.2.2.2.2.1, t.2.2.1.2.2.2.2.2.2.2.2.1, t.2.2.1.2.2.2.2.2.2.2.2.2.1, t.2.2.1.2.2.2.2.2.2.2.2.2.2), t.2.2.2)
abbrev o_on (t : k_T) : Nat → Nat := t.2.2.1.2.1
abbrev set_o_on (t : k_T) (v : Nat → Nat) : k_T := (t.1, t.2.1, (t.2.2.1.1, v, t.2.2.1.2.2.1, t.2.2.1.2.2.2.1, t.2.2.1.2.2.2.2.1, t.2.2.1.2.2.2.2.2.1, t.2.2.1.2.2.2.2.2.2.1, t.2.2.1.2.2.2.2.2.2.2.1, t.2.2.1.2.2.2.2.2.2.2.2.1, t.2.2.1.2.2.2.2.2.2.2.2.2.1, t.2.2.1.2.2.2.2.2.2.2.2.2.2), t.2.2.2)
abbrev o_b (t : k_T) : Nat → Option Nat := t.2.2.1.2.2.1
abbrev set_o_b (t : k_T) (v : Nat → Option Nat) : k_T := (t.1, t.2.1, (t.2.2.1.1, t.2.2.1.2.1, v, t.2.2.1.2.2.2.1, t.2.2.1.2.2.2.2.1, t.2.2.1.2.2.2.2.2.1, t.2.2.1.2.2.2.2.2.2.1, t.2.2.1.2.2.2.2.2.2.2.1, t.2.2.1.2.2.2.2.2.2.2.2.1, t.2.2.1.2.2.2.2.2.2.2.2.2.1, t.2.2.1.2.2.2.2.2.2.2.2.2.2), t.2.2.2)
abbrev o_ca (t : k_T) : Nat → Nat := t.2.2.1.2.2.2.1
abbrev set_o_ca (t : k_T) (v : Nat → Nat) : k_T := (t.1, t.2.1, (t.2.2.1.1, t.2.2.1.2.1, t.2.2.1.2.2.1, v, t.2.2.1.2.2.2.2.1, t.2.2.1.2.2.2.2.2.1, t.2.2.1.2.2.2.2.2.2.1, t.2.2.1.2.2.2.2.2.2.2.1, t.2.2.1.2.2.2.2.2.2.2.2.1, t.2.2.1.2.2.2.2.2.2.2.2.2.1, t.2.2.1.2.2.2.2.2.2.2.2.2.2), t.2.2.2)
abbrev o_k (t : k_T) : Nat → Nat → Int32 := t.2.2.1.2.2.2.2.1
abbrev set_o_k (t : k_T) (v : Nat → Nat → Int32) : k_T := (t.1, t.2.1, (t.2.2.1.1, t.2.2.1.2.1, t.2.2.1.2.2.1, t.2.2.1.2.2.2.1, v, t.2.2.1.2.2.2.2.2.1, t.2.2.1.2.2.2.2.2.2.1, t.2.2.1.2.2.2.2.2.2.2.1, t.2.2.1.2.2.2.2.2.2.2.2.1, t.2.2.1.2.2.2.2.2.2.2.2.2.1, t.2.2.1.2.2.2.2.2.2.2.2.2.2), t.2.2.2)
abbrev o_kc (t : k_T) : Nat → Nat := t.2.2.1.2.2.2.2.2.1
abbrev set_o_kc (t : k_T) (v : Nat → Nat) : k_T := (t.1, t.2.1, (t.2.2.1.1, t.2.2.1.2.1, t.2.2.1.2.2.1, t.2.2.1.2.2.2.1, t.2.2.1.2.2.2.2.1, v, t.2.2.1.2.2.2.2.2.2.1, t.2.2.1.2.2.2.2.2.2.2.1, t.2.2.1.2.2.2.2.2.2.2.2.1, t.2.2.1.2.2.2.2.2.2.2.2.2.1, t.2.2.1.2.2.2.2.2.2.2.2.2.2), t.2.2.2)
abbrev o_dm (t : k_T) : Nat → Bool := t.2.2.1.2.2.2.2.2.2.1
abbrev set_o_dm (t : k_T) (v : Nat → Bool) : k_T := (t.1, t.2.1, (t.2.2.1.1, t.2.2.1.2.1, t.2.2.1.2.2.1, t.2.2.1.2.2.2.1, t.2.2.1.2.2.2.2.1, t.2.2.1.2.2.2.2.2.1, v, t.2.2.1.2.2.2.2.2.2.2.1, t.2.2.1.2.2.2.2.2.2.2.2.1, t.2.2.1.2.2.2.2.2.2.2.2.2.1, t.2.2.1.2.2.2.2.2.2.2.2.2.2), t.2.2.2)
abbrev o_pv (t : k_T) : Nat → Bool := t.2.2.1.2.2.2.2.2.2.2.1
abbrev set_o_pv (t : k_T) (v : Nat → Bool) : k_T := (t.1, t.2.1, (t.2.2.1.1, t.2.2.1.2.1, t.2.2.1.2.2.1, t.2.2.1.2.2.2.1, t.2.2.1.2.2.2.2.1, t.2.2.1.2.2.2.2.2.1, t.2.2.1.2.2.2.2.2.2.1, v, t.2.2.1.2.2.2.2.2.2.2.2.1, t.2.2.1.2.2.2.2.2.2.2.2.2.1, t.2.2.1.2.2.2.2.2.2.2.2.2.2), t.2.2.2)
abbrev o_pm (t : k_T) : Nat → Bool := t.2.2.1.2.2.2.2.2.2.2.2.1
abbrev set_o_pm (t : k_T) (v : Nat → Bool) : k_T := (t.1, t.2.1, (t.2.2.1.1, t.2.2.1.2.1, t.2.2.1.2.2.1, t.2.2.1.2.2.2.1, t.2.2.1.2.2.2.2.1, t.2.2.1.2.2.2.2.2.1, t.2.2.1.2.2.2.2.2.2.1, t.2.2.1.2.2.2.2.2.2.2.1, v, t.2.2.1.2.2.2.2.2.2.2.2.2.1, t.2.2.1.2.2.2.2.2.2.2.2.2.2), t.2.2.2)
abbrev o_nd (t : k_T) : Nat → Bool := t.2.2.1.2.2.2.2.2.2.2.2.2.1
abbrev set_o_nd (t : k_T) (v : Nat → Bool) : k_T := (t.1, t.2.1, (t.2.2.1.1, t.2.2.1.2.1, t.2.2.1.2.2.1, t.2.2.1.2.2.2.1, t.2.2.1.2.2.2.2.1, t.2.2.1.2.2.2.2.2.1, t.2.2.1.2.2.2.2.2.2.1, t.2.2.1.2.2.2.2.2.2.2.1, t.2.2.1.2.2.2.2.2.2.2.2.1, v, t.2.2.1.2.2.2.2.2.2.2.2.2.2), t.2.2.2)
abbrev o_hd (t : k_T) : Nat → Bool := t.2.2.1.2.2.2.2.2.2.2.2.2.2
abbrev set_o_hd (t : k_T) (v : Nat → Bool) : k_T := (t.1, t.2.1, (t.2.2.1.1, t.2.2.1.2.1, t.2.2.1.2.2.1, t.2.2.1.2.2.2.1, t.2.2.1.2.2.2.2.1, t.2.2.1.2.2.2.2.2.1, t.2.2.1.2.2.2.2.2.2.1, t.2.2.1.2.2.2.2.2.2.2.1, t.2.2.1.2.2.2.2.2.2.2.2.1, t.2.2.1.2.2.2.2.2.2.2.2.2.1, v), t.2.2.2)
abbrev w_x (t : k_T) : Nat → Int32 := t.2.2.2.1
abbrev set_w_x (t : k_T) (v : Nat → Int32) : k_T := (t.1, t.2.1, t.2.2.1, (v, t.2.2.2.2.1, t.2.2.2.2.2.1, t.2.2.2.2.2.2.1, t.2.2.2.2.2.2.2))
abbrev w_w (t : k_T) : Nat → Int32 := t.2.2.2.2.1
abbrev set_w_w (t : k_T) (v : Nat → Int32) : k_T := (t.1, t.2.1, t.2.2.1, (t.2.2.2.1, v, t.2.2.2.2.2.1, t.2.2.2.2.2.2.1, t.2.2.2.2.2.2.2))
abbrev w_c (t : k_T) : Nat → Int32 := t.2.2.2.2.2.1
abbrev set_w_c (t : k_T) (v : Nat → Int32) : k_T := (t.1, t.2.1, t.2.2.1, (t.2.2.2.1, t.2.2.2.2.1, v, t.2.2.2.2.2.2.1, t.2.2.2.2.2.2.2))
abbrev w_m (t : k_T) : Nat → Int32 := t.2.2.2.2.2.2.1
abbrev set_w_m (t : k_T) (v : Nat → Int32) : k_T := (t.1, t.2.1, t.2.2.1, (t.2.2.2.1, t.2.2.2.2.1, t.2.2.2.2.2.1, v, t.2.2.2.2.2.2.2))
abbrev w_r (t : k_T) : Nat → Int32 := t.2.2.2.2.2.2.2
abbrev set_w_r (t : k_T) (v : Nat → Int32) : k_T := (t.1, t.2.1, t.2.2.1, (t.2.2.2.1, t.2.2.2.2.1, t.2.2.2.2.2.1, t.2.2.2.2.2.2.1, v))
def kb (b : Bool) : Int32 := match b with | true => 1 | false => 0
theorem kb_nar (b : Bool) : narrow .boolean (.int (kb b)) = .int (kb b) := by cases b <;> rfl
theorem kb_fit (b : Bool) : fits .boolean (.int (kb b)) = true := by cases b <;> rfl
theorem kb_t : kb true = 1 := rfl
theorem kb_f : kb false = 0 := rfl
theorem kb_0 {b : Bool} : kb b = 0 ↔ b = false := by cases b <;> decide
theorem kb_1 {b : Bool} : kb b = 1 ↔ b = true := by cases b <;> decide
def kO (o : Option Nat) : Int32 := match o with | none => -1 | some j => nI j
def k_f (b : Nat) (e : va_E) : Option va_E := match b with | 0 => some e | _ + 1 => none
def k_ct (g : k_g) (ad : k_AD) (t : k_T) : k_G := fun a b => match a with
  | 0 => k_f b (.inr (4, [.ref (ad 1 0), .ref (ad 5 0), .ref (ad 7 0), .int (nI (x_d t))]))
  | 1 => k_f b (.inr (1, [.ref (ad 2 0), .ref (ad 3 0), .ref (ad 4 0), .int (nI (f_n t))]))
  | 2 => k_f b (.inl (g.2.1 0, 10, .inl (f_c t)))
  | 3 => k_f b (.inl (g.2.1 0, 300, .inl (fun j => nI (f_lf t j))))
  | 4 => k_f b (.inl (g.2.1 0, 300, .inl (f_lt t)))
  | 5 => k_f b (.inr (3, [.ref (ad 6 0), .int (nI (s_md t)), .int (nI (s_r1 t)), .int (nI (s_r2 t)), .int (nI (s_r3 t))]))
  | 6 => k_f b (.inl (g.2.1 3, 60, .inr (.inr (.inr (.inr (fun j => if s_th t j = true then some (ad 25 j) else none))))))
  | 7 => k_f b (.inr (2, [.ref (ad 8 0)]))
  | 8 => k_f b (.inl (g.2.1 0, 365, .inl (fun j => nI (r_p t j))))
  | 9 => k_f b (.inl (g.2.1 0, 56, .inl (w_x t)))
  | 10 => k_f b (.inl (g.2.1 0, 56, .inl (w_w t)))
  | 11 => k_f b (.inl (g.2.1 0, 4, .inl (w_c t)))
  | 12 => k_f b (.inl (g.2.1 0, 8, .inl (w_m t)))
  | 13 => k_f b (.inl (g.2.1 0, 64, .inl (w_r t)))
  | 25 => if b < o_n t then some (.inr (0, [.int (nI b), .int (nI (o_on t b)), va_rf ((o_b t b).map (ad 25)), .int (nI (o_ca t b)), .ref (ad 26 b), .int (nI (o_kc t b)), .int (kb (o_dm t b)), .int (kb (o_pv t b)), .int (kb (o_pm t b)), .int (kb (o_nd t b)), .int (kb (o_hd t b))])) else none
  | 26 => if b < o_n t then some (.inl (g.2.1 0, 10, .inl (o_k t b))) else none
  | _ => none
abbrev k_H (g : k_g) (ad : k_AD) (t : k_T) (H : Heap) : Prop := k_Wd g (k_ct g ad t) ad H
theorem kc_0 (g : k_g) (ad : k_AD) (t : k_T) : k_ct g ad t 0 0 = some (.inr (4, [.ref (ad 1 0), .ref (ad 5 0), .ref (ad 7 0), .int (nI (x_d t))])) := rfl
theorem kc_1 (g : k_g) (ad : k_AD) (t : k_T) : k_ct g ad t 1 0 = some (.inr (1, [.ref (ad 2 0), .ref (ad 3 0), .ref (ad 4 0), .int (nI (f_n t))])) := rfl
theorem kc_2 (g : k_g) (ad : k_AD) (t : k_T) : k_ct g ad t 2 0 = some (.inl (g.2.1 0, 10, .inl (f_c t))) := rfl
theorem kc_3 (g : k_g) (ad : k_AD) (t : k_T) : k_ct g ad t 3 0 = some (.inl (g.2.1 0, 300, .inl (fun j => nI (f_lf t j)))) := rfl
theorem kc_4 (g : k_g) (ad : k_AD) (t : k_T) : k_ct g ad t 4 0 = some (.inl (g.2.1 0, 300, .inl (f_lt t))) := rfl
theorem kc_5 (g : k_g) (ad : k_AD) (t : k_T) : k_ct g ad t 5 0 = some (.inr (3, [.ref (ad 6 0), .int (nI (s_md t)), .int (nI (s_r1 t)), .int (nI (s_r2 t)), .int (nI (s_r3 t))])) := rfl
theorem kc_6 (g : k_g) (ad : k_AD) (t : k_T) : k_ct g ad t 6 0 = some (.inl (g.2.1 3, 60, .inr (.inr (.inr (.inr (fun j => if s_th t j = true then some (ad 25 j) else none)))))) := rfl
theorem kc_7 (g : k_g) (ad : k_AD) (t : k_T) : k_ct g ad t 7 0 = some (.inr (2, [.ref (ad 8 0)])) := rfl
theorem kc_8 (g : k_g) (ad : k_AD) (t : k_T) : k_ct g ad t 8 0 = some (.inl (g.2.1 0, 365, .inl (fun j => nI (r_p t j)))) := rfl
theorem kc_9 (g : k_g) (ad : k_AD) (t : k_T) : k_ct g ad t 9 0 = some (.inl (g.2.1 0, 56, .inl (w_x t))) := rfl
theorem kc_10 (g : k_g) (ad : k_AD) (t : k_T) : k_ct g ad t 10 0 = some (.inl (g.2.1 0, 56, .inl (w_w t))) := rfl
theorem kc_11 (g : k_g) (ad : k_AD) (t : k_T) : k_ct g ad t 11 0 = some (.inl (g.2.1 0, 4, .inl (w_c t))) := rfl
theorem kc_12 (g : k_g) (ad : k_AD) (t : k_T) : k_ct g ad t 12 0 = some (.inl (g.2.1 0, 8, .inl (w_m t))) := rfl
theorem kc_13 (g : k_g) (ad : k_AD) (t : k_T) : k_ct g ad t 13 0 = some (.inl (g.2.1 0, 64, .inl (w_r t))) := rfl
theorem kc_25 (g : k_g) (ad : k_AD) (t : k_T) {b : Nat} (h : b < o_n t) : k_ct g ad t 25 b = some (.inr (0, [.int (nI b), .int (nI (o_on t b)), va_rf ((o_b t b).map (ad 25)), .int (nI (o_ca t b)), .ref (ad 26 b), .int (nI (o_kc t b)), .int (kb (o_dm t b)), .int (kb (o_pv t b)), .int (kb (o_pm t b)), .int (kb (o_nd t b)), .int (kb (o_hd t b))])) := if_pos h
theorem kc_26 (g : k_g) (ad : k_AD) (t : k_T) {b : Nat} (h : b < o_n t) : k_ct g ad t 26 b = some (.inl (g.2.1 0, 10, .inl (o_k t b))) := if_pos h
theorem k_to {g : k_g} {ad : k_AD} {t t2 : k_T} {H : Heap} {x y : Nat} {e : va_E} (hs : ∀ a b, ¬ (a = x ∧ b = y) → k_ct g ad t2 a b = k_ct g ad t a b) (he : k_ct g ad t2 x y = some e) (h : k_Wd g (k_up (k_ct g ad t) x y e) ad H) : k_H g ad t2 H := by
  refine h.to fun a b z hz => ?_
  by_cases hq : a = x ∧ b = y
  · obtain ⟨rfl, rfl⟩ := hq
    simp only [k_up, and_self, if_true]
    exact he.symm.trans hz
  · simp only [k_up, if_neg hq]
    rw [← hs a b hq]; exact hz
theorem k_fnN (f : Nat → Nat) (k v : Nat) : upd (fun j => nI (f j)) k (nI v) = fun j => nI (va_up f k v j) := by
  funext j; by_cases h : j = k <;> simp [upd, va_up, h]
theorem k_fnO (f : Nat → Option Nat) (k : Nat) (v : Option Nat) : upd (fun j => kO (f j)) k (kO v) = fun j => kO (va_up f k v j) := by
  funext j; by_cases h : j = k <;> simp [upd, va_up, h]
theorem k_fnB (f : Nat → Bool) (k : Nat) (v : Bool) : upd (fun j => kb (f j)) k (kb v) = fun j => kb (va_up f k v j) := by
  funext j; by_cases h : j = k <;> simp [upd, va_up, h]
theorem k_fnI (f : Nat → Int32) (k : Nat) (v : Int32) : upd f k v = va_up f k v := rfl
theorem k_fnR (ad : k_AD) (f : Nat → Bool) (k : Nat) : va_up (fun j => if f j = true then some (ad 25 j) else none) k (some (ad 25 k)) = fun j => if va_up f k true j = true then some (ad 25 j) else none := by
  funext j; by_cases h : j = k <;> simp [va_up, h]
theorem k_fnR0 (ad : k_AD) (f : Nat → Bool) (k : Nat) : va_up (fun j => if f j = true then some (ad 25 j) else none) k none = fun j => if va_up f k false j = true then some (ad 25 j) else none := by
  funext j; by_cases h : j = k <;> simp [va_up, h]
theorem ks_x_d (g : k_g) (ad : k_AD) (t : k_T) (v : Nat) : ∀ a b, ¬ (a = 0 ∧ b = 0) → k_ct g ad (set_x_d t v) a b = k_ct g ad t a b := by
  intro a b h
  match a with
  | 0 => match b with | 0 => exact absurd ⟨rfl, rfl⟩ h | b + 1 => rfl
  | 1 => rfl
  | 2 => rfl
  | 3 => rfl
  | 4 => rfl
  | 5 => rfl
  | 6 => rfl
  | 7 => rfl
  | 8 => rfl
  | 9 => rfl
  | 10 => rfl
  | 11 => rfl
  | 12 => rfl
  | 13 => rfl
  | 14 => rfl
  | 15 => rfl
  | 16 => rfl
  | 17 => rfl
  | 18 => rfl
  | 19 => rfl
  | 20 => rfl
  | 21 => rfl
  | 22 => rfl
  | 23 => rfl
  | 24 => rfl
  | 25 => rfl
  | 26 => rfl
  | _ + 27 => rfl
theorem kt_x_d {g : k_g} {ad : k_AD} {t : k_T} {H : Heap} (v : Nat) {x : Int32} (hx : x = nI v) (h : k_Wd g (k_up (k_ct g ad t) 0 0 (.inr (4, [.ref (ad 1 0), .ref (ad 5 0), .ref (ad 7 0), .int x]))) ad H) : k_H g ad (set_x_d t v) H := by
  subst hx; exact k_to (ks_x_d g ad t v) rfl h
theorem ks_f_n (g : k_g) (ad : k_AD) (t : k_T) (v : Nat) : ∀ a b, ¬ (a = 1 ∧ b = 0) → k_ct g ad (set_f_n t v) a b = k_ct g ad t a b := by
  intro a b h
  match a with
  | 0 => rfl
  | 1 => match b with | 0 => exact absurd ⟨rfl, rfl⟩ h | b + 1 => rfl
  | 2 => rfl
  | 3 => rfl
  | 4 => rfl
  | 5 => rfl
  | 6 => rfl
  | 7 => rfl
  | 8 => rfl
  | 9 => rfl
  | 10 => rfl
  | 11 => rfl
  | 12 => rfl
  | 13 => rfl
  | 14 => rfl
  | 15 => rfl
  | 16 => rfl
  | 17 => rfl
  | 18 => rfl
  | 19 => rfl
  | 20 => rfl
  | 21 => rfl
  | 22 => rfl
  | 23 => rfl
  | 24 => rfl
  | 25 => rfl
  | 26 => rfl
  | _ + 27 => rfl
theorem kt_f_n {g : k_g} {ad : k_AD} {t : k_T} {H : Heap} (v : Nat) {x : Int32} (hx : x = nI v) (h : k_Wd g (k_up (k_ct g ad t) 1 0 (.inr (1, [.ref (ad 2 0), .ref (ad 3 0), .ref (ad 4 0), .int x]))) ad H) : k_H g ad (set_f_n t v) H := by
  subst hx; exact k_to (ks_f_n g ad t v) rfl h
theorem ks_f_c (g : k_g) (ad : k_AD) (t : k_T) (v : Nat → Int32) : ∀ a b, ¬ (a = 2 ∧ b = 0) → k_ct g ad (set_f_c t v) a b = k_ct g ad t a b := by
  intro a b h
  match a with
  | 0 => rfl
  | 1 => rfl
  | 2 => match b with | 0 => exact absurd ⟨rfl, rfl⟩ h | b + 1 => rfl
  | 3 => rfl
  | 4 => rfl
  | 5 => rfl
  | 6 => rfl
  | 7 => rfl
  | 8 => rfl
  | 9 => rfl
  | 10 => rfl
  | 11 => rfl
  | 12 => rfl
  | 13 => rfl
  | 14 => rfl
  | 15 => rfl
  | 16 => rfl
  | 17 => rfl
  | 18 => rfl
  | 19 => rfl
  | 20 => rfl
  | 21 => rfl
  | 22 => rfl
  | 23 => rfl
  | 24 => rfl
  | 25 => rfl
  | 26 => rfl
  | _ + 27 => rfl
theorem kt_f_c {g : k_g} {ad : k_AD} {t : k_T} {H : Heap} (k : Nat) (v : Int32) {x : Int32} (hx : x = v) (h : k_Wd g (k_up (k_ct g ad t) 2 0 (.inl (g.2.1 0, 10, .inl (upd (f_c t) k x)))) ad H) : k_H g ad (set_f_c t (va_up (f_c t) k v)) H := by
  subst hx; rw [k_fnI] at h; exact k_to (ks_f_c g ad t _) rfl h
theorem ks_f_lf (g : k_g) (ad : k_AD) (t : k_T) (v : Nat → Nat) : ∀ a b, ¬ (a = 3 ∧ b = 0) → k_ct g ad (set_f_lf t v) a b = k_ct g ad t a b := by
  intro a b h
  match a with
  | 0 => rfl
  | 1 => rfl
  | 2 => rfl
  | 3 => match b with | 0 => exact absurd ⟨rfl, rfl⟩ h | b + 1 => rfl
  | 4 => rfl
  | 5 => rfl
  | 6 => rfl
  | 7 => rfl
  | 8 => rfl
  | 9 => rfl
  | 10 => rfl
  | 11 => rfl
  | 12 => rfl
  | 13 => rfl
  | 14 => rfl
  | 15 => rfl
  | 16 => rfl
  | 17 => rfl
  | 18 => rfl
  | 19 => rfl
  | 20 => rfl
  | 21 => rfl
  | 22 => rfl
  | 23 => rfl
  | 24 => rfl
  | 25 => rfl
  | 26 => rfl
  | _ + 27 => rfl
theorem kt_f_lf {g : k_g} {ad : k_AD} {t : k_T} {H : Heap} (k : Nat) (v : Nat) {x : Int32} (hx : x = nI v) (h : k_Wd g (k_up (k_ct g ad t) 3 0 (.inl (g.2.1 0, 300, .inl (upd (fun j => nI (f_lf t j)) k x)))) ad H) : k_H g ad (set_f_lf t (va_up (f_lf t) k v)) H := by
  subst hx; rw [k_fnN] at h; exact k_to (ks_f_lf g ad t _) rfl h
theorem ks_f_lt (g : k_g) (ad : k_AD) (t : k_T) (v : Nat → Int32) : ∀ a b, ¬ (a = 4 ∧ b = 0) → k_ct g ad (set_f_lt t v) a b = k_ct g ad t a b := by
  intro a b h
  match a with
  | 0 => rfl
  | 1 => rfl
  | 2 => rfl
  | 3 => rfl
  | 4 => match b with | 0 => exact absurd ⟨rfl, rfl⟩ h | b + 1 => rfl
  | 5 => rfl
  | 6 => rfl
  | 7 => rfl
  | 8 => rfl
  | 9 => rfl
  | 10 => rfl
  | 11 => rfl
  | 12 => rfl
  | 13 => rfl
  | 14 => rfl
  | 15 => rfl
  | 16 => rfl
  | 17 => rfl
  | 18 => rfl
  | 19 => rfl
  | 20 => rfl
  | 21 => rfl
  | 22 => rfl
  | 23 => rfl
  | 24 => rfl
  | 25 => rfl
  | 26 => rfl
  | _ + 27 => rfl
theorem kt_f_lt {g : k_g} {ad : k_AD} {t : k_T} {H : Heap} (k : Nat) (v : Int32) {x : Int32} (hx : x = v) (h : k_Wd g (k_up (k_ct g ad t) 4 0 (.inl (g.2.1 0, 300, .inl (upd (f_lt t) k x)))) ad H) : k_H g ad (set_f_lt t (va_up (f_lt t) k v)) H := by
  subst hx; rw [k_fnI] at h; exact k_to (ks_f_lt g ad t _) rfl h
theorem ks_s_md (g : k_g) (ad : k_AD) (t : k_T) (v : Nat) : ∀ a b, ¬ (a = 5 ∧ b = 0) → k_ct g ad (set_s_md t v) a b = k_ct g ad t a b := by
  intro a b h
  match a with
  | 0 => rfl
  | 1 => rfl
  | 2 => rfl
  | 3 => rfl
  | 4 => rfl
  | 5 => match b with | 0 => exact absurd ⟨rfl, rfl⟩ h | b + 1 => rfl
  | 6 => rfl
  | 7 => rfl
  | 8 => rfl
  | 9 => rfl
  | 10 => rfl
  | 11 => rfl
  | 12 => rfl
  | 13 => rfl
  | 14 => rfl
  | 15 => rfl
  | 16 => rfl
  | 17 => rfl
  | 18 => rfl
  | 19 => rfl
  | 20 => rfl
  | 21 => rfl
  | 22 => rfl
  | 23 => rfl
  | 24 => rfl
  | 25 => rfl
  | 26 => rfl
  | _ + 27 => rfl
theorem kt_s_md {g : k_g} {ad : k_AD} {t : k_T} {H : Heap} (v : Nat) {x : Int32} (hx : x = nI v) (h : k_Wd g (k_up (k_ct g ad t) 5 0 (.inr (3, [.ref (ad 6 0), .int x, .int (nI (s_r1 t)), .int (nI (s_r2 t)), .int (nI (s_r3 t))]))) ad H) : k_H g ad (set_s_md t v) H := by
  subst hx; exact k_to (ks_s_md g ad t v) rfl h
theorem ks_s_r1 (g : k_g) (ad : k_AD) (t : k_T) (v : Nat) : ∀ a b, ¬ (a = 5 ∧ b = 0) → k_ct g ad (set_s_r1 t v) a b = k_ct g ad t a b := by
  intro a b h
  match a with
  | 0 => rfl
  | 1 => rfl
  | 2 => rfl
  | 3 => rfl
  | 4 => rfl
  | 5 => match b with | 0 => exact absurd ⟨rfl, rfl⟩ h | b + 1 => rfl
  | 6 => rfl
  | 7 => rfl
  | 8 => rfl
  | 9 => rfl
  | 10 => rfl
  | 11 => rfl
  | 12 => rfl
  | 13 => rfl
  | 14 => rfl
  | 15 => rfl
  | 16 => rfl
  | 17 => rfl
  | 18 => rfl
  | 19 => rfl
  | 20 => rfl
  | 21 => rfl
  | 22 => rfl
  | 23 => rfl
  | 24 => rfl
  | 25 => rfl
  | 26 => rfl
  | _ + 27 => rfl
theorem kt_s_r1 {g : k_g} {ad : k_AD} {t : k_T} {H : Heap} (v : Nat) {x : Int32} (hx : x = nI v) (h : k_Wd g (k_up (k_ct g ad t) 5 0 (.inr (3, [.ref (ad 6 0), .int (nI (s_md t)), .int x, .int (nI (s_r2 t)), .int (nI (s_r3 t))]))) ad H) : k_H g ad (set_s_r1 t v) H := by
  subst hx; exact k_to (ks_s_r1 g ad t v) rfl h
theorem ks_s_r2 (g : k_g) (ad : k_AD) (t : k_T) (v : Nat) : ∀ a b, ¬ (a = 5 ∧ b = 0) → k_ct g ad (set_s_r2 t v) a b = k_ct g ad t a b := by
  intro a b h
  match a with
  | 0 => rfl
  | 1 => rfl
  | 2 => rfl
  | 3 => rfl
  | 4 => rfl
  | 5 => match b with | 0 => exact absurd ⟨rfl, rfl⟩ h | b + 1 => rfl
  | 6 => rfl
  | 7 => rfl
  | 8 => rfl
  | 9 => rfl
  | 10 => rfl
  | 11 => rfl
  | 12 => rfl
  | 13 => rfl
  | 14 => rfl
  | 15 => rfl
  | 16 => rfl
  | 17 => rfl
  | 18 => rfl
  | 19 => rfl
  | 20 => rfl
  | 21 => rfl
  | 22 => rfl
  | 23 => rfl
  | 24 => rfl
  | 25 => rfl
  | 26 => rfl
  | _ + 27 => rfl
theorem kt_s_r2 {g : k_g} {ad : k_AD} {t : k_T} {H : Heap} (v : Nat) {x : Int32} (hx : x = nI v) (h : k_Wd g (k_up (k_ct g ad t) 5 0 (.inr (3, [.ref (ad 6 0), .int (nI (s_md t)), .int (nI (s_r1 t)), .int x, .int (nI (s_r3 t))]))) ad H) : k_H g ad (set_s_r2 t v) H := by
  subst hx; exact k_to (ks_s_r2 g ad t v) rfl h
theorem ks_s_r3 (g : k_g) (ad : k_AD) (t : k_T) (v : Nat) : ∀ a b, ¬ (a = 5 ∧ b = 0) → k_ct g ad (set_s_r3 t v) a b = k_ct g ad t a b := by
  intro a b h
  match a with
  | 0 => rfl
  | 1 => rfl
  | 2 => rfl
  | 3 => rfl
  | 4 => rfl
  | 5 => match b with | 0 => exact absurd ⟨rfl, rfl⟩ h | b + 1 => rfl
  | 6 => rfl
  | 7 => rfl
  | 8 => rfl
  | 9 => rfl
  | 10 => rfl
  | 11 => rfl
  | 12 => rfl
  | 13 => rfl
  | 14 => rfl
  | 15 => rfl
  | 16 => rfl
  | 17 => rfl
  | 18 => rfl
  | 19 => rfl
  | 20 => rfl
  | 21 => rfl
  | 22 => rfl
  | 23 => rfl
  | 24 => rfl
  | 25 => rfl
  | 26 => rfl
  | _ + 27 => rfl
theorem kt_s_r3 {g : k_g} {ad : k_AD} {t : k_T} {H : Heap} (v : Nat) {x : Int32} (hx : x = nI v) (h : k_Wd g (k_up (k_ct g ad t) 5 0 (.inr (3, [.ref (ad 6 0), .int (nI (s_md t)), .int (nI (s_r1 t)), .int (nI (s_r2 t)), .int x]))) ad H) : k_H g ad (set_s_r3 t v) H := by
  subst hx; exact k_to (ks_s_r3 g ad t v) rfl h
theorem ks_s_th (g : k_g) (ad : k_AD) (t : k_T) (v : Nat → Bool) : ∀ a b, ¬ (a = 6 ∧ b = 0) → k_ct g ad (set_s_th t v) a b = k_ct g ad t a b := by
  intro a b h
  match a with
  | 0 => rfl
  | 1 => rfl
  | 2 => rfl
  | 3 => rfl
  | 4 => rfl
  | 5 => rfl
  | 6 => match b with | 0 => exact absurd ⟨rfl, rfl⟩ h | b + 1 => rfl
  | 7 => rfl
  | 8 => rfl
  | 9 => rfl
  | 10 => rfl
  | 11 => rfl
  | 12 => rfl
  | 13 => rfl
  | 14 => rfl
  | 15 => rfl
  | 16 => rfl
  | 17 => rfl
  | 18 => rfl
  | 19 => rfl
  | 20 => rfl
  | 21 => rfl
  | 22 => rfl
  | 23 => rfl
  | 24 => rfl
  | 25 => rfl
  | 26 => rfl
  | _ + 27 => rfl
theorem kt_s_th {g : k_g} {ad : k_AD} {t : k_T} {H : Heap} (k : Nat) (h : k_Wd g (k_up (k_ct g ad t) 6 0 (.inl (g.2.1 3, 60, .inr (.inr (.inr (.inr (va_up (fun j => if s_th t j = true then some (ad 25 j) else none) k (some (ad 25 k))))))))) ad H) : k_H g ad (set_s_th t (va_up (s_th t) k true)) H := by
  rw [k_fnR] at h; exact k_to (ks_s_th g ad t _) rfl h
theorem kt_s_th0 {g : k_g} {ad : k_AD} {t : k_T} {H : Heap} (k : Nat) (h : k_Wd g (k_up (k_ct g ad t) 6 0 (.inl (g.2.1 3, 60, .inr (.inr (.inr (.inr (va_up (fun j => if s_th t j = true then some (ad 25 j) else none) k none))))))) ad H) : k_H g ad (set_s_th t (va_up (s_th t) k false)) H := by
  rw [k_fnR0] at h; exact k_to (ks_s_th g ad t _) rfl h
theorem ks_r_p (g : k_g) (ad : k_AD) (t : k_T) (v : Nat → Nat) : ∀ a b, ¬ (a = 8 ∧ b = 0) → k_ct g ad (set_r_p t v) a b = k_ct g ad t a b := by
  intro a b h
  match a with
  | 0 => rfl
  | 1 => rfl
  | 2 => rfl
  | 3 => rfl
  | 4 => rfl
  | 5 => rfl
  | 6 => rfl
  | 7 => rfl
  | 8 => match b with | 0 => exact absurd ⟨rfl, rfl⟩ h | b + 1 => rfl
  | 9 => rfl
  | 10 => rfl
  | 11 => rfl
  | 12 => rfl
  | 13 => rfl
  | 14 => rfl
  | 15 => rfl
  | 16 => rfl
  | 17 => rfl
  | 18 => rfl
  | 19 => rfl
  | 20 => rfl
  | 21 => rfl
  | 22 => rfl
  | 23 => rfl
  | 24 => rfl
  | 25 => rfl
  | 26 => rfl
  | _ + 27 => rfl
theorem kt_r_p {g : k_g} {ad : k_AD} {t : k_T} {H : Heap} (k : Nat) (v : Nat) {x : Int32} (hx : x = nI v) (h : k_Wd g (k_up (k_ct g ad t) 8 0 (.inl (g.2.1 0, 365, .inl (upd (fun j => nI (r_p t j)) k x)))) ad H) : k_H g ad (set_r_p t (va_up (r_p t) k v)) H := by
  subst hx; rw [k_fnN] at h; exact k_to (ks_r_p g ad t _) rfl h
theorem ks_w_x (g : k_g) (ad : k_AD) (t : k_T) (v : Nat → Int32) : ∀ a b, ¬ (a = 9 ∧ b = 0) → k_ct g ad (set_w_x t v) a b = k_ct g ad t a b := by
  intro a b h
  match a with
  | 0 => rfl
  | 1 => rfl
  | 2 => rfl
  | 3 => rfl
  | 4 => rfl
  | 5 => rfl
  | 6 => rfl
  | 7 => rfl
  | 8 => rfl
  | 9 => match b with | 0 => exact absurd ⟨rfl, rfl⟩ h | b + 1 => rfl
  | 10 => rfl
  | 11 => rfl
  | 12 => rfl
  | 13 => rfl
  | 14 => rfl
  | 15 => rfl
  | 16 => rfl
  | 17 => rfl
  | 18 => rfl
  | 19 => rfl
  | 20 => rfl
  | 21 => rfl
  | 22 => rfl
  | 23 => rfl
  | 24 => rfl
  | 25 => rfl
  | 26 => rfl
  | _ + 27 => rfl
theorem kt_w_x {g : k_g} {ad : k_AD} {t : k_T} {H : Heap} (k : Nat) (v : Int32) {x : Int32} (hx : x = v) (h : k_Wd g (k_up (k_ct g ad t) 9 0 (.inl (g.2.1 0, 56, .inl (upd (w_x t) k x)))) ad H) : k_H g ad (set_w_x t (va_up (w_x t) k v)) H := by
  subst hx; rw [k_fnI] at h; exact k_to (ks_w_x g ad t _) rfl h
theorem ks_w_w (g : k_g) (ad : k_AD) (t : k_T) (v : Nat → Int32) : ∀ a b, ¬ (a = 10 ∧ b = 0) → k_ct g ad (set_w_w t v) a b = k_ct g ad t a b := by
  intro a b h
  match a with
  | 0 => rfl
  | 1 => rfl
  | 2 => rfl
  | 3 => rfl
  | 4 => rfl
  | 5 => rfl
  | 6 => rfl
  | 7 => rfl
  | 8 => rfl
  | 9 => rfl
  | 10 => match b with | 0 => exact absurd ⟨rfl, rfl⟩ h | b + 1 => rfl
  | 11 => rfl
  | 12 => rfl
  | 13 => rfl
  | 14 => rfl
  | 15 => rfl
  | 16 => rfl
  | 17 => rfl
  | 18 => rfl
  | 19 => rfl
  | 20 => rfl
  | 21 => rfl
  | 22 => rfl
  | 23 => rfl
  | 24 => rfl
  | 25 => rfl
  | 26 => rfl
  | _ + 27 => rfl
theorem kt_w_w {g : k_g} {ad : k_AD} {t : k_T} {H : Heap} (k : Nat) (v : Int32) {x : Int32} (hx : x = v) (h : k_Wd g (k_up (k_ct g ad t) 10 0 (.inl (g.2.1 0, 56, .inl (upd (w_w t) k x)))) ad H) : k_H g ad (set_w_w t (va_up (w_w t) k v)) H := by
  subst hx; rw [k_fnI] at h; exact k_to (ks_w_w g ad t _) rfl h
theorem ks_w_c (g : k_g) (ad : k_AD) (t : k_T) (v : Nat → Int32) : ∀ a b, ¬ (a = 11 ∧ b = 0) → k_ct g ad (set_w_c t v) a b = k_ct g ad t a b := by
  intro a b h
  match a with
  | 0 => rfl
  | 1 => rfl
  | 2 => rfl
  | 3 => rfl
  | 4 => rfl
  | 5 => rfl
  | 6 => rfl
  | 7 => rfl
  | 8 => rfl
  | 9 => rfl
  | 10 => rfl
  | 11 => match b with | 0 => exact absurd ⟨rfl, rfl⟩ h | b + 1 => rfl
  | 12 => rfl
  | 13 => rfl
  | 14 => rfl
  | 15 => rfl
  | 16 => rfl
  | 17 => rfl
  | 18 => rfl
  | 19 => rfl
  | 20 => rfl
  | 21 => rfl
  | 22 => rfl
  | 23 => rfl
  | 24 => rfl
  | 25 => rfl
  | 26 => rfl
  | _ + 27 => rfl
theorem kt_w_c {g : k_g} {ad : k_AD} {t : k_T} {H : Heap} (k : Nat) (v : Int32) {x : Int32} (hx : x = v) (h : k_Wd g (k_up (k_ct g ad t) 11 0 (.inl (g.2.1 0, 4, .inl (upd (w_c t) k x)))) ad H) : k_H g ad (set_w_c t (va_up (w_c t) k v)) H := by
  subst hx; rw [k_fnI] at h; exact k_to (ks_w_c g ad t _) rfl h
theorem ks_w_m (g : k_g) (ad : k_AD) (t : k_T) (v : Nat → Int32) : ∀ a b, ¬ (a = 12 ∧ b = 0) → k_ct g ad (set_w_m t v) a b = k_ct g ad t a b := by
  intro a b h
  match a with
  | 0 => rfl
  | 1 => rfl
  | 2 => rfl
  | 3 => rfl
  | 4 => rfl
  | 5 => rfl
  | 6 => rfl
  | 7 => rfl
  | 8 => rfl
  | 9 => rfl
  | 10 => rfl
  | 11 => rfl
  | 12 => match b with | 0 => exact absurd ⟨rfl, rfl⟩ h | b + 1 => rfl
  | 13 => rfl
  | 14 => rfl
  | 15 => rfl
  | 16 => rfl
  | 17 => rfl
  | 18 => rfl
  | 19 => rfl
  | 20 => rfl
  | 21 => rfl
  | 22 => rfl
  | 23 => rfl
  | 24 => rfl
  | 25 => rfl
  | 26 => rfl
  | _ + 27 => rfl
theorem kt_w_m {g : k_g} {ad : k_AD} {t : k_T} {H : Heap} (k : Nat) (v : Int32) {x : Int32} (hx : x = v) (h : k_Wd g (k_up (k_ct g ad t) 12 0 (.inl (g.2.1 0, 8, .inl (upd (w_m t) k x)))) ad H) : k_H g ad (set_w_m t (va_up (w_m t) k v)) H := by
  subst hx; rw [k_fnI] at h; exact k_to (ks_w_m g ad t _) rfl h
theorem ks_w_r (g : k_g) (ad : k_AD) (t : k_T) (v : Nat → Int32) : ∀ a b, ¬ (a = 13 ∧ b = 0) → k_ct g ad (set_w_r t v) a b = k_ct g ad t a b := by
  intro a b h
  match a with
  | 0 => rfl
  | 1 => rfl
  | 2 => rfl
  | 3 => rfl
  | 4 => rfl
  | 5 => rfl
  | 6 => rfl
  | 7 => rfl
  | 8 => rfl
  | 9 => rfl
  | 10 => rfl
  | 11 => rfl
  | 12 => rfl
  | 13 => match b with | 0 => exact absurd ⟨rfl, rfl⟩ h | b + 1 => rfl
  | 14 => rfl
  | 15 => rfl
  | 16 => rfl
  | 17 => rfl
  | 18 => rfl
  | 19 => rfl
  | 20 => rfl
  | 21 => rfl
  | 22 => rfl
  | 23 => rfl
  | 24 => rfl
  | 25 => rfl
  | 26 => rfl
  | _ + 27 => rfl
theorem kt_w_r {g : k_g} {ad : k_AD} {t : k_T} {H : Heap} (k : Nat) (v : Int32) {x : Int32} (hx : x = v) (h : k_Wd g (k_up (k_ct g ad t) 13 0 (.inl (g.2.1 0, 64, .inl (upd (w_r t) k x)))) ad H) : k_H g ad (set_w_r t (va_up (w_r t) k v)) H := by
  subst hx; rw [k_fnI] at h; exact k_to (ks_w_r g ad t _) rfl h
theorem ks_o_on (g : k_g) (ad : k_AD) (t : k_T) (k : Nat) (v : Nat) : ∀ a b, ¬ (a = 25 ∧ b = k) → k_ct g ad (set_o_on t (va_up (o_on t) k v)) a b = k_ct g ad t a b := by
  intro a b h
  match a with
  | 0 => rfl
  | 1 => rfl
  | 2 => rfl
  | 3 => rfl
  | 4 => rfl
  | 5 => rfl
  | 6 => rfl
  | 7 => rfl
  | 8 => rfl
  | 9 => rfl
  | 10 => rfl
  | 11 => rfl
  | 12 => rfl
  | 13 => rfl
  | 14 => rfl
  | 15 => rfl
  | 16 => rfl
  | 17 => rfl
  | 18 => rfl
  | 19 => rfl
  | 20 => rfl
  | 21 => rfl
  | 22 => rfl
  | 23 => rfl
  | 24 => rfl
  | 25 => have hb : b ≠ k := fun q => h ⟨rfl, q⟩
          show (if b < o_n t then (some (.inr (0, [.int (nI b), .int (nI (va_up (o_on t) k v b)), va_rf ((o_b t b).map (ad 25)), .int (nI (o_ca t b)), .ref (ad 26 b), .int (nI (o_kc t b)), .int (kb (o_dm t b)), .int (kb (o_pv t b)), .int (kb (o_pm t b)), .int (kb (o_nd t b)), .int (kb (o_hd t b))])) : Option va_E) else none) = _
          rw [va_up_ne _ _ hb]; rfl
  | 26 => rfl
  | _ + 27 => rfl
theorem kt_o_on {g : k_g} {ad : k_AD} {t : k_T} {H : Heap} (k : Nat) (hk : k < o_n t) (v : Nat) {x : Int32} (hx : x = nI v) (h : k_Wd g (k_up (k_ct g ad t) 25 k (.inr (0, [.int (nI k), .int x, va_rf ((o_b t k).map (ad 25)), .int (nI (o_ca t k)), .ref (ad 26 k), .int (nI (o_kc t k)), .int (kb (o_dm t k)), .int (kb (o_pv t k)), .int (kb (o_pm t k)), .int (kb (o_nd t k)), .int (kb (o_hd t k))]))) ad H) : k_H g ad (set_o_on t (va_up (o_on t) k v)) H := by
  subst hx
  refine k_to (ks_o_on g ad t k v) ?_ h
  refine (if_pos hk).trans ?_
  show (some (.inr (0, [.int (nI k), .int (nI (va_up (o_on t) k v k)), va_rf ((o_b t k).map (ad 25)), .int (nI (o_ca t k)), .ref (ad 26 k), .int (nI (o_kc t k)), .int (kb (o_dm t k)), .int (kb (o_pv t k)), .int (kb (o_pm t k)), .int (kb (o_nd t k)), .int (kb (o_hd t k))])) : Option va_E) = _
  rw [va_up_self]
theorem ks_o_ca (g : k_g) (ad : k_AD) (t : k_T) (k : Nat) (v : Nat) : ∀ a b, ¬ (a = 25 ∧ b = k) → k_ct g ad (set_o_ca t (va_up (o_ca t) k v)) a b = k_ct g ad t a b := by
  intro a b h
  match a with
  | 0 => rfl
  | 1 => rfl
  | 2 => rfl
  | 3 => rfl
  | 4 => rfl
  | 5 => rfl
  | 6 => rfl
  | 7 => rfl
  | 8 => rfl
  | 9 => rfl
  | 10 => rfl
  | 11 => rfl
  | 12 => rfl
  | 13 => rfl
  | 14 => rfl
  | 15 => rfl
  | 16 => rfl
  | 17 => rfl
  | 18 => rfl
  | 19 => rfl
  | 20 => rfl
  | 21 => rfl
  | 22 => rfl
  | 23 => rfl
  | 24 => rfl
  | 25 => have hb : b ≠ k := fun q => h ⟨rfl, q⟩
          show (if b < o_n t then (some (.inr (0, [.int (nI b), .int (nI (o_on t b)), va_rf ((o_b t b).map (ad 25)), .int (nI (va_up (o_ca t) k v b)), .ref (ad 26 b), .int (nI (o_kc t b)), .int (kb (o_dm t b)), .int (kb (o_pv t b)), .int (kb (o_pm t b)), .int (kb (o_nd t b)), .int (kb (o_hd t b))])) : Option va_E) else none) = _
          rw [va_up_ne _ _ hb]; rfl
  | 26 => rfl
  | _ + 27 => rfl
theorem kt_o_ca {g : k_g} {ad : k_AD} {t : k_T} {H : Heap} (k : Nat) (hk : k < o_n t) (v : Nat) {x : Int32} (hx : x = nI v) (h : k_Wd g (k_up (k_ct g ad t) 25 k (.inr (0, [.int (nI k), .int (nI (o_on t k)), va_rf ((o_b t k).map (ad 25)), .int x, .ref (ad 26 k), .int (nI (o_kc t k)), .int (kb (o_dm t k)), .int (kb (o_pv t k)), .int (kb (o_pm t k)), .int (kb (o_nd t k)), .int (kb (o_hd t k))]))) ad H) : k_H g ad (set_o_ca t (va_up (o_ca t) k v)) H := by
  subst hx
  refine k_to (ks_o_ca g ad t k v) ?_ h
  refine (if_pos hk).trans ?_
  show (some (.inr (0, [.int (nI k), .int (nI (o_on t k)), va_rf ((o_b t k).map (ad 25)), .int (nI (va_up (o_ca t) k v k)), .ref (ad 26 k), .int (nI (o_kc t k)), .int (kb (o_dm t k)), .int (kb (o_pv t k)), .int (kb (o_pm t k)), .int (kb (o_nd t k)), .int (kb (o_hd t k))])) : Option va_E) = _
  rw [va_up_self]
theorem ks_o_kc (g : k_g) (ad : k_AD) (t : k_T) (k : Nat) (v : Nat) : ∀ a b, ¬ (a = 25 ∧ b = k) → k_ct g ad (set_o_kc t (va_up (o_kc t) k v)) a b = k_ct g ad t a b := by
  intro a b h
  match a with
  | 0 => rfl
  | 1 => rfl
  | 2 => rfl
  | 3 => rfl
  | 4 => rfl
  | 5 => rfl
  | 6 => rfl
  | 7 => rfl
  | 8 => rfl
  | 9 => rfl
  | 10 => rfl
  | 11 => rfl
  | 12 => rfl
  | 13 => rfl
  | 14 => rfl
  | 15 => rfl
  | 16 => rfl
  | 17 => rfl
  | 18 => rfl
  | 19 => rfl
  | 20 => rfl
  | 21 => rfl
  | 22 => rfl
  | 23 => rfl
  | 24 => rfl
  | 25 => have hb : b ≠ k := fun q => h ⟨rfl, q⟩
          show (if b < o_n t then (some (.inr (0, [.int (nI b), .int (nI (o_on t b)), va_rf ((o_b t b).map (ad 25)), .int (nI (o_ca t b)), .ref (ad 26 b), .int (nI (va_up (o_kc t) k v b)), .int (kb (o_dm t b)), .int (kb (o_pv t b)), .int (kb (o_pm t b)), .int (kb (o_nd t b)), .int (kb (o_hd t b))])) : Option va_E) else none) = _
          rw [va_up_ne _ _ hb]; rfl
  | 26 => rfl
  | _ + 27 => rfl
theorem kt_o_kc {g : k_g} {ad : k_AD} {t : k_T} {H : Heap} (k : Nat) (hk : k < o_n t) (v : Nat) {x : Int32} (hx : x = nI v) (h : k_Wd g (k_up (k_ct g ad t) 25 k (.inr (0, [.int (nI k), .int (nI (o_on t k)), va_rf ((o_b t k).map (ad 25)), .int (nI (o_ca t k)), .ref (ad 26 k), .int x, .int (kb (o_dm t k)), .int (kb (o_pv t k)), .int (kb (o_pm t k)), .int (kb (o_nd t k)), .int (kb (o_hd t k))]))) ad H) : k_H g ad (set_o_kc t (va_up (o_kc t) k v)) H := by
  subst hx
  refine k_to (ks_o_kc g ad t k v) ?_ h
  refine (if_pos hk).trans ?_
  show (some (.inr (0, [.int (nI k), .int (nI (o_on t k)), va_rf ((o_b t k).map (ad 25)), .int (nI (o_ca t k)), .ref (ad 26 k), .int (nI (va_up (o_kc t) k v k)), .int (kb (o_dm t k)), .int (kb (o_pv t k)), .int (kb (o_pm t k)), .int (kb (o_nd t k)), .int (kb (o_hd t k))])) : Option va_E) = _
  rw [va_up_self]
theorem ks_o_dm (g : k_g) (ad : k_AD) (t : k_T) (k : Nat) (v : Bool) : ∀ a b, ¬ (a = 25 ∧ b = k) → k_ct g ad (set_o_dm t (va_up (o_dm t) k v)) a b = k_ct g ad t a b := by
  intro a b h
  match a with
  | 0 => rfl
  | 1 => rfl
  | 2 => rfl
  | 3 => rfl
  | 4 => rfl
  | 5 => rfl
  | 6 => rfl
  | 7 => rfl
  | 8 => rfl
  | 9 => rfl
  | 10 => rfl
  | 11 => rfl
  | 12 => rfl
  | 13 => rfl
  | 14 => rfl
  | 15 => rfl
  | 16 => rfl
  | 17 => rfl
  | 18 => rfl
  | 19 => rfl
  | 20 => rfl
  | 21 => rfl
  | 22 => rfl
  | 23 => rfl
  | 24 => rfl
  | 25 => have hb : b ≠ k := fun q => h ⟨rfl, q⟩
          show (if b < o_n t then (some (.inr (0, [.int (nI b), .int (nI (o_on t b)), va_rf ((o_b t b).map (ad 25)), .int (nI (o_ca t b)), .ref (ad 26 b), .int (nI (o_kc t b)), .int (kb (va_up (o_dm t) k v b)), .int (kb (o_pv t b)), .int (kb (o_pm t b)), .int (kb (o_nd t b)), .int (kb (o_hd t b))])) : Option va_E) else none) = _
          rw [va_up_ne _ _ hb]; rfl
  | 26 => rfl
  | _ + 27 => rfl
theorem kt_o_dm {g : k_g} {ad : k_AD} {t : k_T} {H : Heap} (k : Nat) (hk : k < o_n t) (v : Bool) {x : Int32} (hx : x = kb v) (h : k_Wd g (k_up (k_ct g ad t) 25 k (.inr (0, [.int (nI k), .int (nI (o_on t k)), va_rf ((o_b t k).map (ad 25)), .int (nI (o_ca t k)), .ref (ad 26 k), .int (nI (o_kc t k)), .int x, .int (kb (o_pv t k)), .int (kb (o_pm t k)), .int (kb (o_nd t k)), .int (kb (o_hd t k))]))) ad H) : k_H g ad (set_o_dm t (va_up (o_dm t) k v)) H := by
  subst hx
  refine k_to (ks_o_dm g ad t k v) ?_ h
  refine (if_pos hk).trans ?_
  show (some (.inr (0, [.int (nI k), .int (nI (o_on t k)), va_rf ((o_b t k).map (ad 25)), .int (nI (o_ca t k)), .ref (ad 26 k), .int (nI (o_kc t k)), .int (kb (va_up (o_dm t) k v k)), .int (kb (o_pv t k)), .int (kb (o_pm t k)), .int (kb (o_nd t k)), .int (kb (o_hd t k))])) : Option va_E) = _
  rw [va_up_self]
theorem ks_o_pv (g : k_g) (ad : k_AD) (t : k_T) (k : Nat) (v : Bool) : ∀ a b, ¬ (a = 25 ∧ b = k) → k_ct g ad (set_o_pv t (va_up (o_pv t) k v)) a b = k_ct g ad t a b := by
  intro a b h
  match a with
  | 0 => rfl
  | 1 => rfl
  | 2 => rfl
  | 3 => rfl
  | 4 => rfl
  | 5 => rfl
  | 6 => rfl
  | 7 => rfl
  | 8 => rfl
  | 9 => rfl
  | 10 => rfl
  | 11 => rfl
  | 12 => rfl
  | 13 => rfl
  | 14 => rfl
  | 15 => rfl
  | 16 => rfl
  | 17 => rfl
  | 18 => rfl
  | 19 => rfl
  | 20 => rfl
  | 21 => rfl
  | 22 => rfl
  | 23 => rfl
  | 24 => rfl
  | 25 => have hb : b ≠ k := fun q => h ⟨rfl, q⟩
          show (if b < o_n t then (some (.inr (0, [.int (nI b), .int (nI (o_on t b)), va_rf ((o_b t b).map (ad 25)), .int (nI (o_ca t b)), .ref (ad 26 b), .int (nI (o_kc t b)), .int (kb (o_dm t b)), .int (kb (va_up (o_pv t) k v b)), .int (kb (o_pm t b)), .int (kb (o_nd t b)), .int (kb (o_hd t b))])) : Option va_E) else none) = _
          rw [va_up_ne _ _ hb]; rfl
  | 26 => rfl
  | _ + 27 => rfl
theorem kt_o_pv {g : k_g} {ad : k_AD} {t : k_T} {H : Heap} (k : Nat) (hk : k < o_n t) (v : Bool) {x : Int32} (hx : x = kb v) (h : k_Wd g (k_up (k_ct g ad t) 25 k (.inr (0, [.int (nI k), .int (nI (o_on t k)), va_rf ((o_b t k).map (ad 25)), .int (nI (o_ca t k)), .ref (ad 26 k), .int (nI (o_kc t k)), .int (kb (o_dm t k)), .int x, .int (kb (o_pm t k)), .int (kb (o_nd t k)), .int (kb (o_hd t k))]))) ad H) : k_H g ad (set_o_pv t (va_up (o_pv t) k v)) H := by
  subst hx
  refine k_to (ks_o_pv g ad t k v) ?_ h
  refine (if_pos hk).trans ?_
  show (some (.inr (0, [.int (nI k), .int (nI (o_on t k)), va_rf ((o_b t k).map (ad 25)), .int (nI (o_ca t k)), .ref (ad 26 k), .int (nI (o_kc t k)), .int (kb (o_dm t k)), .int (kb (va_up (o_pv t) k v k)), .int (kb (o_pm t k)), .int (kb (o_nd t k)), .int (kb (o_hd t k))])) : Option va_E) = _
  rw [va_up_self]
theorem ks_o_pm (g : k_g) (ad : k_AD) (t : k_T) (k : Nat) (v : Bool) : ∀ a b, ¬ (a = 25 ∧ b = k) → k_ct g ad (set_o_pm t (va_up (o_pm t) k v)) a b = k_ct g ad t a b := by
  intro a b h
  match a with
  | 0 => rfl
  | 1 => rfl
  | 2 => rfl
  | 3 => rfl
  | 4 => rfl
  | 5 => rfl
  | 6 => rfl
  | 7 => rfl
  | 8 => rfl
  | 9 => rfl
  | 10 => rfl
  | 11 => rfl
  | 12 => rfl
  | 13 => rfl
  | 14 => rfl
  | 15 => rfl
  | 16 => rfl
  | 17 => rfl
  | 18 => rfl
  | 19 => rfl
  | 20 => rfl
  | 21 => rfl
  | 22 => rfl
  | 23 => rfl
  | 24 => rfl
  | 25 => have hb : b ≠ k := fun q => h ⟨rfl, q⟩
          show (if b < o_n t then (some (.inr (0, [.int (nI b), .int (nI (o_on t b)), va_rf ((o_b t b).map (ad 25)), .int (nI (o_ca t b)), .ref (ad 26 b), .int (nI (o_kc t b)), .int (kb (o_dm t b)), .int (kb (o_pv t b)), .int (kb (va_up (o_pm t) k v b)), .int (kb (o_nd t b)), .int (kb (o_hd t b))])) : Option va_E) else none) = _
          rw [va_up_ne _ _ hb]; rfl
  | 26 => rfl
  | _ + 27 => rfl
theorem kt_o_pm {g : k_g} {ad : k_AD} {t : k_T} {H : Heap} (k : Nat) (hk : k < o_n t) (v : Bool) {x : Int32} (hx : x = kb v) (h : k_Wd g (k_up (k_ct g ad t) 25 k (.inr (0, [.int (nI k), .int (nI (o_on t k)), va_rf ((o_b t k).map (ad 25)), .int (nI (o_ca t k)), .ref (ad 26 k), .int (nI (o_kc t k)), .int (kb (o_dm t k)), .int (kb (o_pv t k)), .int x, .int (kb (o_nd t k)), .int (kb (o_hd t k))]))) ad H) : k_H g ad (set_o_pm t (va_up (o_pm t) k v)) H := by
  subst hx
  refine k_to (ks_o_pm g ad t k v) ?_ h
  refine (if_pos hk).trans ?_
  show (some (.inr (0, [.int (nI k), .int (nI (o_on t k)), va_rf ((o_b t k).map (ad 25)), .int (nI (o_ca t k)), .ref (ad 26 k), .int (nI (o_kc t k)), .int (kb (o_dm t k)), .int (kb (o_pv t k)), .int (kb (va_up (o_pm t) k v k)), .int (kb (o_nd t k)), .int (kb (o_hd t k))])) : Option va_E) = _
  rw [va_up_self]
theorem ks_o_nd (g : k_g) (ad : k_AD) (t : k_T) (k : Nat) (v : Bool) : ∀ a b, ¬ (a = 25 ∧ b = k) → k_ct g ad (set_o_nd t (va_up (o_nd t) k v)) a b = k_ct g ad t a b := by
  intro a b h
  match a with
  | 0 => rfl
  | 1 => rfl
  | 2 => rfl
  | 3 => rfl
  | 4 => rfl
  | 5 => rfl
  | 6 => rfl
  | 7 => rfl
  | 8 => rfl
  | 9 => rfl
  | 10 => rfl
  | 11 => rfl
  | 12 => rfl
  | 13 => rfl
  | 14 => rfl
  | 15 => rfl
  | 16 => rfl
  | 17 => rfl
  | 18 => rfl
  | 19 => rfl
  | 20 => rfl
  | 21 => rfl
  | 22 => rfl
  | 23 => rfl
  | 24 => rfl
  | 25 => have hb : b ≠ k := fun q => h ⟨rfl, q⟩
          show (if b < o_n t then (some (.inr (0, [.int (nI b), .int (nI (o_on t b)), va_rf ((o_b t b).map (ad 25)), .int (nI (o_ca t b)), .ref (ad 26 b), .int (nI (o_kc t b)), .int (kb (o_dm t b)), .int (kb (o_pv t b)), .int (kb (o_pm t b)), .int (kb (va_up (o_nd t) k v b)), .int (kb (o_hd t b))])) : Option va_E) else none) = _
          rw [va_up_ne _ _ hb]; rfl
  | 26 => rfl
  | _ + 27 => rfl
theorem kt_o_nd {g : k_g} {ad : k_AD} {t : k_T} {H : Heap} (k : Nat) (hk : k < o_n t) (v : Bool) {x : Int32} (hx : x = kb v) (h : k_Wd g (k_up (k_ct g ad t) 25 k (.inr (0, [.int (nI k), .int (nI (o_on t k)), va_rf ((o_b t k).map (ad 25)), .int (nI (o_ca t k)), .ref (ad 26 k), .int (nI (o_kc t k)), .int (kb (o_dm t k)), .int (kb (o_pv t k)), .int (kb (o_pm t k)), .int x, .int (kb (o_hd t k))]))) ad H) : k_H g ad (set_o_nd t (va_up (o_nd t) k v)) H := by
  subst hx
  refine k_to (ks_o_nd g ad t k v) ?_ h
  refine (if_pos hk).trans ?_
  show (some (.inr (0, [.int (nI k), .int (nI (o_on t k)), va_rf ((o_b t k).map (ad 25)), .int (nI (o_ca t k)), .ref (ad 26 k), .int (nI (o_kc t k)), .int (kb (o_dm t k)), .int (kb (o_pv t k)), .int (kb (o_pm t k)), .int (kb (va_up (o_nd t) k v k)), .int (kb (o_hd t k))])) : Option va_E) = _
  rw [va_up_self]
theorem ks_o_hd (g : k_g) (ad : k_AD) (t : k_T) (k : Nat) (v : Bool) : ∀ a b, ¬ (a = 25 ∧ b = k) → k_ct g ad (set_o_hd t (va_up (o_hd t) k v)) a b = k_ct g ad t a b := by
  intro a b h
  match a with
  | 0 => rfl
  | 1 => rfl
  | 2 => rfl
  | 3 => rfl
  | 4 => rfl
  | 5 => rfl
  | 6 => rfl
  | 7 => rfl
  | 8 => rfl
  | 9 => rfl
  | 10 => rfl
  | 11 => rfl
  | 12 => rfl
  | 13 => rfl
  | 14 => rfl
  | 15 => rfl
  | 16 => rfl
  | 17 => rfl
  | 18 => rfl
  | 19 => rfl
  | 20 => rfl
  | 21 => rfl
  | 22 => rfl
  | 23 => rfl
  | 24 => rfl
  | 25 => have hb : b ≠ k := fun q => h ⟨rfl, q⟩
          show (if b < o_n t then (some (.inr (0, [.int (nI b), .int (nI (o_on t b)), va_rf ((o_b t b).map (ad 25)), .int (nI (o_ca t b)), .ref (ad 26 b), .int (nI (o_kc t b)), .int (kb (o_dm t b)), .int (kb (o_pv t b)), .int (kb (o_pm t b)), .int (kb (o_nd t b)), .int (kb (va_up (o_hd t) k v b))])) : Option va_E) else none) = _
          rw [va_up_ne _ _ hb]; rfl
  | 26 => rfl
  | _ + 27 => rfl
theorem kt_o_hd {g : k_g} {ad : k_AD} {t : k_T} {H : Heap} (k : Nat) (hk : k < o_n t) (v : Bool) {x : Int32} (hx : x = kb v) (h : k_Wd g (k_up (k_ct g ad t) 25 k (.inr (0, [.int (nI k), .int (nI (o_on t k)), va_rf ((o_b t k).map (ad 25)), .int (nI (o_ca t k)), .ref (ad 26 k), .int (nI (o_kc t k)), .int (kb (o_dm t k)), .int (kb (o_pv t k)), .int (kb (o_pm t k)), .int (kb (o_nd t k)), .int x]))) ad H) : k_H g ad (set_o_hd t (va_up (o_hd t) k v)) H := by
  subst hx
  refine k_to (ks_o_hd g ad t k v) ?_ h
  refine (if_pos hk).trans ?_
  show (some (.inr (0, [.int (nI k), .int (nI (o_on t k)), va_rf ((o_b t k).map (ad 25)), .int (nI (o_ca t k)), .ref (ad 26 k), .int (nI (o_kc t k)), .int (kb (o_dm t k)), .int (kb (o_pv t k)), .int (kb (o_pm t k)), .int (kb (o_nd t k)), .int (kb (va_up (o_hd t) k v k))])) : Option va_E) = _
  rw [va_up_self]
theorem ks_o_k (g : k_g) (ad : k_AD) (t : k_T) (k : Nat) (v : Nat → Int32) : ∀ a b, ¬ (a = 26 ∧ b = k) → k_ct g ad (set_o_k t (va_up (o_k t) k v)) a b = k_ct g ad t a b := by
  intro a b h
  match a with
  | 0 => rfl
  | 1 => rfl
  | 2 => rfl
  | 3 => rfl
  | 4 => rfl
  | 5 => rfl
  | 6 => rfl
  | 7 => rfl
  | 8 => rfl
  | 9 => rfl
  | 10 => rfl
  | 11 => rfl
  | 12 => rfl
  | 13 => rfl
  | 14 => rfl
  | 15 => rfl
  | 16 => rfl
  | 17 => rfl
  | 18 => rfl
  | 19 => rfl
  | 20 => rfl
  | 21 => rfl
  | 22 => rfl
  | 23 => rfl
  | 24 => rfl
  | 25 => rfl
  | 26 => have hb : b ≠ k := fun q => h ⟨rfl, q⟩
          show (if b < o_n t then (some (.inl (g.2.1 0, 10, .inl (va_up (o_k t) k v b))) : Option va_E) else none) = _
          rw [va_up_ne _ _ hb]; rfl
  | _ + 27 => rfl
theorem kt_o_k {g : k_g} {ad : k_AD} {t : k_T} {H : Heap} (k : Nat) (hk : k < o_n t) (j : Nat) (x : Int32) (h : k_Wd g (k_up (k_ct g ad t) 26 k (.inl (g.2.1 0, 10, .inl (upd (o_k t k) j x)))) ad H) : k_H g ad (set_o_k t (va_up (o_k t) k (va_up (o_k t k) j x))) H := by
  refine k_to (ks_o_k g ad t k _) ?_ h
  refine (if_pos hk).trans ?_
  show (some (.inl (g.2.1 0, 10, .inl (va_up (o_k t) k (va_up (o_k t k) j x) k))) : Option va_E) = _
  rw [va_up_self]; rfl
