/-- what a copy keeps when it is made, before its contents are put in -/
def k_K0 : Nat → Int32 := fun j => if j < 10 then -1 else nI 0
theorem k_cnt_K0 : k_cnt k_K0 = 0 := by decide +kernel
theorem k_ctn25 {g : k_g} {ad : k_AD} {t : k_T} {n : Nat} (h : o_n t = n) : k_ct g ad t 25 n = none := if_neg (by omega)
theorem k_ctn26 {g : k_g} {ad : k_AD} {t : k_T} {n : Nat} (h : o_n t = n) : k_ct g ad t 26 n = none := if_neg (by omega)
theorem k_ua_ne {ad : k_AD} {a b q x y : Nat} (h : ¬ (x = a ∧ y = b)) : k_ua ad a b q x y = ad x y := if_neg h
theorem k_ua_at {ad : k_AD} {a b q : Nat} : k_ua ad a b q a b = q := if_pos ⟨rfl, rfl⟩
/-- cells of the world but the copies: the same when the copies' own words change -/
theorem k_ct_low {g : k_g} {ad ad' : k_AD} {t : k_T} {n d w : Nat} {bo : Option Nat} (had : ∀ a b, ¬ (a = 25 ∧ b = n) → ¬ (a = 26 ∧ b = n) → ad' a b = ad a b) (hn : o_n t = n) (hwf : ∀ j, s_th t j = true → j < o_n t) : ∀ a b, a ≠ 25 → a ≠ 26 → k_ct g ad' (set_o_n (set_o_hd (set_o_nd (set_o_pm (set_o_pv (set_o_dm (set_o_kc (set_o_k (set_o_ca (set_o_b (set_o_on t (va_up (o_on t) n d)) (va_up (o_b t) n bo)) (va_up (o_ca t) n w)) (va_up (o_k t) n k_K0)) (va_up (o_kc t) n 0)) (va_up (o_dm t) n false)) (va_up (o_pv t) n false)) (va_up (o_pm t) n false)) (va_up (o_nd t) n false)) (va_up (o_hd t) n false)) (n + 1)) a b = k_ct g ad t a b := by
  intro a b h1 h2
  have h9 : ∀ k, k ≠ 25 → k ≠ 26 → ad' k 0 = ad k 0 := fun k g1 g2 => had k 0 (fun q => g1 q.1) (fun q => g2 q.1)
  have e1 := h9 1 (by decide) (by decide); have e2 := h9 2 (by decide) (by decide); have e3 := h9 3 (by decide) (by decide); have e4 := h9 4 (by decide) (by decide)
  have e5 := h9 5 (by decide) (by decide); have e6 := h9 6 (by decide) (by decide); have e7 := h9 7 (by decide) (by decide); have e8 := h9 8 (by decide) (by decide)
  have hr : (fun j => if s_th t j = true then some (ad' 25 j) else none) = (fun j => if s_th t j = true then some (ad 25 j) else none) := funext fun j => by
    by_cases hj : s_th t j = true
    · rw [if_pos hj, if_pos hj, had 25 j (fun q => by have := hwf j hj; omega) (fun q => by omega)]
    · rw [if_neg hj, if_neg hj]
  match a with
  | 0 => match b with
    | 0 => show (some (.inr (4, [.ref (ad' 1 0), .ref (ad' 5 0), .ref (ad' 7 0), .int (nI (x_d t))])) : Option va_E) = some (.inr (4, [.ref (ad 1 0), .ref (ad 5 0), .ref (ad 7 0), .int (nI (x_d t))])); rw [e1, e5, e7]
    | b + 1 => rfl
  | 1 => match b with
    | 0 => show (some (.inr (1, [.ref (ad' 2 0), .ref (ad' 3 0), .ref (ad' 4 0), .int (nI (f_n t))])) : Option va_E) = some (.inr (1, [.ref (ad 2 0), .ref (ad 3 0), .ref (ad 4 0), .int (nI (f_n t))])); rw [e2, e3, e4]
    | b + 1 => rfl
  | 2 => match b with | 0 => rfl | b + 1 => rfl
  | 3 => match b with | 0 => rfl | b + 1 => rfl
  | 4 => match b with | 0 => rfl | b + 1 => rfl
  | 5 => match b with
    | 0 => show (some (.inr (3, [.ref (ad' 6 0), .int (nI (s_md t)), .int (nI (s_r1 t)), .int (nI (s_r2 t)), .int (nI (s_r3 t))])) : Option va_E) = some (.inr (3, [.ref (ad 6 0), .int (nI (s_md t)), .int (nI (s_r1 t)), .int (nI (s_r2 t)), .int (nI (s_r3 t))])); rw [e6]
    | b + 1 => rfl
  | 6 => match b with
    | 0 => show (some (.inl (g.2.1 3, 60, .inr (.inr (.inr (.inr (fun j => if s_th t j = true then some (ad' 25 j) else none)))))) : Option va_E) = some (.inl (g.2.1 3, 60, .inr (.inr (.inr (.inr (fun j => if s_th t j = true then some (ad 25 j) else none)))))); rw [hr]
    | b + 1 => rfl
  | 7 => match b with
    | 0 => show (some (.inr (2, [.ref (ad' 8 0)])) : Option va_E) = some (.inr (2, [.ref (ad 8 0)])); rw [e8]
    | b + 1 => rfl
  | 8 => match b with | 0 => rfl | b + 1 => rfl
  | 9 => match b with | 0 => rfl | b + 1 => rfl
  | 10 => match b with | 0 => rfl | b + 1 => rfl
  | 11 => match b with | 0 => rfl | b + 1 => rfl
  | 12 => match b with | 0 => rfl | b + 1 => rfl
  | 13 => match b with | 0 => rfl | b + 1 => rfl
  | 14 => rfl
  | 15 => rfl
  | 16 => rfl
  | 17 => rfl
  | 18 => rfl
  | 19 => rfl
  | 20 => rfl
  | 21 => rfl
  | 22 => rfl
  | 23 => rfl
  | 24 => rfl
  | 25 => exact absurd rfl h1
  | 26 => exact absurd rfl h2
  | k + 27 => rfl
theorem k_born {g : k_g} {ad : k_AD} {t : k_T} {H : Heap} {n d w q25 q26 : Nat} {bo : Option Nat} (hn : o_n t = n) (hwf : ∀ j, s_th t j = true → j < o_n t) (hbs : ∀ k b, k < o_n t → o_b t k = some b → b < o_n t ∧ b < k) (hbo : ∀ b, bo = some b → b < o_n t)
    (hW : k_Wd g (k_up (k_up (k_up (k_ct g ad t) 25 n (.inr (0, [.int (nI 0), .int (nI 0), .null, .int (nI 0), .null, .int (nI 0), .int (kb false), .int (kb false), .int (kb false), .int (kb false), .int (kb false)]))) 25 n (.inr (0, [.int (nI n), .int (nI d), va_rf (bo.map (ad 25)), .int (nI w), .ref q26, .int (nI 0), .int (kb false), .int (kb false), .int (kb false), .int (kb false), .int (kb false)]))) 26 n (.inl (g.2.1 0, 10, .inl (fun j => if j < 10 then -1 else nI 0)))) (k_ua (k_ua ad 25 n q25) 26 n q26) H) : k_H g (k_ua (k_ua ad 25 n q25) 26 n q26) (set_o_n (set_o_hd (set_o_nd (set_o_pm (set_o_pv (set_o_dm (set_o_kc (set_o_k (set_o_ca (set_o_b (set_o_on t (va_up (o_on t) n d)) (va_up (o_b t) n bo)) (va_up (o_ca t) n w)) (va_up (o_k t) n k_K0)) (va_up (o_kc t) n 0)) (va_up (o_dm t) n false)) (va_up (o_pv t) n false)) (va_up (o_pm t) n false)) (va_up (o_nd t) n false)) (va_up (o_hd t) n false)) (n + 1)) H := by
  obtain ⟨ad', hA⟩ : ∃ ad', ad' = k_ua (k_ua ad 25 n q25) 26 n q26 := ⟨_, rfl⟩
  have had : ∀ a b, ¬ (a = 25 ∧ b = n) → ¬ (a = 26 ∧ b = n) → ad' a b = ad a b := fun a b h1 h2 => by rw [hA, k_ua_ne h2, k_ua_ne h1]
  have h26 : ad' 26 n = q26 := by rw [hA, k_ua_at]
  have hmap : ∀ o9 : Option Nat, (∀ b, o9 = some b → b < n) → o9.map (ad' 25) = o9.map (ad 25) := fun o9 h9 => by
    cases o9 with
    | none => rfl
    | some b => show some _ = some _; rw [had 25 b (fun q => absurd (h9 b rfl) (by omega)) (fun q => by omega)]
  have hlow := k_ct_low (g := g) (d := d) (w := w) (bo := bo) had hn hwf
  rw [← hA] at hW ⊢
  refine hW.to (fun a b e h => ?_)
  by_cases h25 : a = 25
  · subst h25
    rw [k_up_ne (fun q => absurd q.1 (by decide))]
    by_cases hb : b = n
    · subst hb
      have h1 : k_ct g ad' (set_o_n (set_o_hd (set_o_nd (set_o_pm (set_o_pv (set_o_dm (set_o_kc (set_o_k (set_o_ca (set_o_b (set_o_on t (va_up (o_on t) b d)) (va_up (o_b t) b bo)) (va_up (o_ca t) b w)) (va_up (o_k t) b k_K0)) (va_up (o_kc t) b 0)) (va_up (o_dm t) b false)) (va_up (o_pv t) b false)) (va_up (o_pm t) b false)) (va_up (o_nd t) b false)) (va_up (o_hd t) b false)) (b + 1)) 25 b = some (.inr (0, [.int (nI b), .int (nI (va_up (o_on t) b d b)), va_rf ((va_up (o_b t) b bo b).map (ad' 25)), .int (nI (va_up (o_ca t) b w b)), .ref (ad' 26 b), .int (nI (va_up (o_kc t) b 0 b)), .int (kb (va_up (o_dm t) b false b)), .int (kb (va_up (o_pv t) b false b)), .int (kb (va_up (o_pm t) b false b)), .int (kb (va_up (o_nd t) b false b)), .int (kb (va_up (o_hd t) b false b))])) := if_pos (Nat.lt_succ_self b)
      rw [k_up_at, ← h, h1]
      simp only [va_up_self]
      rw [hmap bo (fun q hq => by have := hbo q hq; omega), h26]
    · rw [k_up_ne (fun q => hb q.2), k_up_ne (fun q => hb q.2)]
      by_cases hlt : b < n
      · have h1 : k_ct g ad' (set_o_n (set_o_hd (set_o_nd (set_o_pm (set_o_pv (set_o_dm (set_o_kc (set_o_k (set_o_ca (set_o_b (set_o_on t (va_up (o_on t) n d)) (va_up (o_b t) n bo)) (va_up (o_ca t) n w)) (va_up (o_k t) n k_K0)) (va_up (o_kc t) n 0)) (va_up (o_dm t) n false)) (va_up (o_pv t) n false)) (va_up (o_pm t) n false)) (va_up (o_nd t) n false)) (va_up (o_hd t) n false)) (n + 1)) 25 b = some (.inr (0, [.int (nI b), .int (nI (va_up (o_on t) n d b)), va_rf ((va_up (o_b t) n bo b).map (ad' 25)), .int (nI (va_up (o_ca t) n w b)), .ref (ad' 26 b), .int (nI (va_up (o_kc t) n 0 b)), .int (kb (va_up (o_dm t) n false b)), .int (kb (va_up (o_pv t) n false b)), .int (kb (va_up (o_pm t) n false b)), .int (kb (va_up (o_nd t) n false b)), .int (kb (va_up (o_hd t) n false b))])) := if_pos (show b < n + 1 by omega)
        have h2 : k_ct g ad t 25 b = some (.inr (0, [.int (nI b), .int (nI (o_on t b)), va_rf ((o_b t b).map (ad 25)), .int (nI (o_ca t b)), .ref (ad 26 b), .int (nI (o_kc t b)), .int (kb (o_dm t b)), .int (kb (o_pv t b)), .int (kb (o_pm t b)), .int (kb (o_nd t b)), .int (kb (o_hd t b))])) := if_pos (by omega)
        rw [h2, ← h, h1]
        simp only [va_up_ne _ _ hb]
        rw [hmap (o_b t b) (fun q hq => by have := hbs b q (by omega) hq; omega), had 26 b (fun q => by omega) (fun q => by omega)]
      · have h1 : k_ct g ad' (set_o_n (set_o_hd (set_o_nd (set_o_pm (set_o_pv (set_o_dm (set_o_kc (set_o_k (set_o_ca (set_o_b (set_o_on t (va_up (o_on t) n d)) (va_up (o_b t) n bo)) (va_up (o_ca t) n w)) (va_up (o_k t) n k_K0)) (va_up (o_kc t) n 0)) (va_up (o_dm t) n false)) (va_up (o_pv t) n false)) (va_up (o_pm t) n false)) (va_up (o_nd t) n false)) (va_up (o_hd t) n false)) (n + 1)) 25 b = none := if_neg (show ¬ b < n + 1 by omega)
        rw [h1] at h; cases h
  · by_cases h26' : a = 26
    · subst h26'
      by_cases hb : b = n
      · subst hb
        have h1 : k_ct g ad' (set_o_n (set_o_hd (set_o_nd (set_o_pm (set_o_pv (set_o_dm (set_o_kc (set_o_k (set_o_ca (set_o_b (set_o_on t (va_up (o_on t) b d)) (va_up (o_b t) b bo)) (va_up (o_ca t) b w)) (va_up (o_k t) b k_K0)) (va_up (o_kc t) b 0)) (va_up (o_dm t) b false)) (va_up (o_pv t) b false)) (va_up (o_pm t) b false)) (va_up (o_nd t) b false)) (va_up (o_hd t) b false)) (b + 1)) 26 b = some (.inl (g.2.1 0, 10, .inl (va_up (o_k t) b k_K0 b))) := if_pos (Nat.lt_succ_self b)
        rw [k_up_at, ← h, h1, va_up_self]
        rfl
      · rw [k_up_ne (fun q => hb q.2), k_up_ne (fun q => h25 q.1), k_up_ne (fun q => h25 q.1)]
        by_cases hlt : b < n
        · have h1 : k_ct g ad' (set_o_n (set_o_hd (set_o_nd (set_o_pm (set_o_pv (set_o_dm (set_o_kc (set_o_k (set_o_ca (set_o_b (set_o_on t (va_up (o_on t) n d)) (va_up (o_b t) n bo)) (va_up (o_ca t) n w)) (va_up (o_k t) n k_K0)) (va_up (o_kc t) n 0)) (va_up (o_dm t) n false)) (va_up (o_pv t) n false)) (va_up (o_pm t) n false)) (va_up (o_nd t) n false)) (va_up (o_hd t) n false)) (n + 1)) 26 b = some (.inl (g.2.1 0, 10, .inl (va_up (o_k t) n k_K0 b))) := if_pos (show b < n + 1 by omega)
          have h2 : k_ct g ad t 26 b = some (.inl (g.2.1 0, 10, .inl (o_k t b))) := if_pos (by omega)
          rw [h2, ← h, h1, va_up_ne _ _ hb]
        · have h1 : k_ct g ad' (set_o_n (set_o_hd (set_o_nd (set_o_pm (set_o_pv (set_o_dm (set_o_kc (set_o_k (set_o_ca (set_o_b (set_o_on t (va_up (o_on t) n d)) (va_up (o_b t) n bo)) (va_up (o_ca t) n w)) (va_up (o_k t) n k_K0)) (va_up (o_kc t) n 0)) (va_up (o_dm t) n false)) (va_up (o_pv t) n false)) (va_up (o_pm t) n false)) (va_up (o_nd t) n false)) (va_up (o_hd t) n false)) (n + 1)) 26 b = none := if_neg (show ¬ b < n + 1 by omega)
          rw [h1] at h; cases h
    · rw [k_up_ne (fun q => h26' q.1), k_up_ne (fun q => h25 q.1), k_up_ne (fun q => h25 q.1), ← hlow a b h25 h26']
      exact h
