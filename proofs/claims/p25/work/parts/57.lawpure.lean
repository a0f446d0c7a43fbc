/-! WHAT THE LAW'S ROUNDS AND THE CLASS'S WORDS SAY OF EACH OTHER -/
theorem q_any0 {bs : Nat → Option Nat} {dm : Nat → Bool} {k : Nat} (h : (k_cl bs k).any dm = false) : kB (fun j => (fun j => (k_cl bs k).contains j) j && dm j) = nI 0 := by
  rw [← kB_0]
  refine kB_ext fun i _ => ?_
  show ((k_cl bs k).contains i && dm i) = false
  cases hc : (k_cl bs k).contains i with
  | false => rfl
  | true =>
    have := List.any_eq_false.mp h i (List.contains_iff_mem.mp hc)
    cases hd : dm i with
    | false => rfl
    | true => exact absurd hd this
theorem q_any1 {bs : Nat → Option Nat} {dm : Nat → Bool} {k : Nat} (hk : k < 14) (h : (k_cl bs k).any dm = true) : ¬ kB (fun j => (fun j => (k_cl bs k).contains j) j && dm j) = nI 0 := by
  intro q
  obtain ⟨x, hx, hd⟩ := List.any_eq_true.mp h
  have h1 := kB_eq0 q x (by have := k_cl_le k x hx; omega)
  have h2 : ((k_cl bs k).contains x && dm x) = false := h1
  rw [List.contains_iff_mem.mpr hx, hd] at h2
  cases h2
theorem q_any0' {bs : Nat → Option Nat} {dm : Nat → Bool} {k : Nat} (hk : k < 14) (q : kB (fun j => (fun j => (k_cl bs k).contains j) j && dm j) = nI 0) : (k_cl bs k).any dm = false := by
  cases h : (k_cl bs k).any dm with
  | false => rfl
  | true => exact absurd q (q_any1 hk h)
theorem q_any1' {bs : Nat → Option Nat} {dm : Nat → Bool} {k : Nat} (q : ¬ kB (fun j => (fun j => (k_cl bs k).contains j) j && dm j) = nI 0) : (k_cl bs k).any dm = true := by
  cases h : (k_cl bs k).any dm with
  | true => rfl
  | false => exact absurd (q_any0 h) q
theorem q_lenl {n : Nat} : ∀ l : List Nat, l.Nodup → (∀ x, x ∈ l → x < n) → k_cb (fun j => l.contains j) n = l.length := by
  intro l
  induction l with
  | nil => intro _ _; exact k_cb_0 n (fun _ _ => rfl)
  | cons a l ih =>
    intro hn hlt
    have h1 := List.nodup_cons.mp hn
    have ha : (fun j => (a :: l).contains j) a = true := by simp
    have h2 := k_cb_off ha n (hlt a List.mem_cons_self)
    have e : va_up (fun j => (a :: l).contains j) a false = fun j => l.contains j := funext fun j => by
      by_cases hj : j = a
      · subst hj
        rw [va_up_self]
        cases hc : l.contains j with
        | false => rfl
        | true => exact absurd (List.contains_iff_mem.mp hc) h1.1
      · rw [va_up_ne _ _ hj, List.contains_cons, show (j == a) = false from beq_eq_false_iff_ne.mpr hj, Bool.false_or]
    rw [e, ih h1.2 (fun x hx => hlt x (List.mem_cons_of_mem _ hx))] at h2
    rw [List.length_cons, ← h2]
theorem q_clnd {bs : Nat → Option Nat} : ∀ k, (k_cl bs k).Nodup := by
  intro k
  induction k using Nat.strongRecOn with
  | ind k ih =>
    cases hb : bs k with
    | none => rw [k_cl_none hb]; exact List.nodup_cons.mpr ⟨List.not_mem_nil, List.nodup_nil⟩
    | some b =>
      by_cases hlt : b < k
      · rw [k_cl_cons hb hlt]
        exact List.nodup_cons.mpr ⟨fun q => by have := k_cl_le b k q; omega, ih b hlt⟩
      · rw [k_cl, hb]; simp only [dif_neg hlt]; exact List.nodup_cons.mpr ⟨List.not_mem_nil, List.nodup_nil⟩
theorem q_len {bs : Nat → Option Nat} {k : Nat} (hk : k < 14) : k_cb (fun j => (k_cl bs k).contains j) 14 = (k_cl bs k).length := q_lenl _ (q_clnd k) (fun x hx => by have := k_cl_le k x hx; omega)
theorem q_pvn {bs : Nat → Option Nat} {pv : Nat → Bool} {k : Nat} : kB (fun j => pv j && !(fun j => (k_cl bs k).contains j) j) = kB (fun j9 => if (k_cl bs k).contains j9 = true then false else pv j9) := kB_ext fun i _ => by
  show (pv i && !(k_cl bs k).contains i) = if (k_cl bs k).contains i = true then false else pv i
  cases (k_cl bs k).contains i <;> simp
theorem q_pvy {bs : Nat → Option Nat} {pv : Nat → Bool} {k : Nat} : kB (fun j => pv j || (fun j => (k_cl bs k).contains j) j) = kB (fun j9 => if (k_cl bs k).contains j9 = true then true else pv j9) := kB_ext fun i _ => by
  show (pv i || (k_cl bs k).contains i) = if (k_cl bs k).contains i = true then true else pv i
  cases (k_cl bs k).contains i <;> simp
theorem q_pv0 {bs : Nat → Option Nat} {pv : Nat → Bool} {v : Bool} {k N : Nat} (hk : k < N) (h : ∀ j, N ≤ j → pv j = false) : ∀ j, N ≤ j → (fun j9 => if (k_cl bs k).contains j9 = true then v else pv j9) j = false := fun j hj => by
  show (if (k_cl bs k).contains j = true then v else pv j) = false
  rw [if_neg (fun q => by have := k_cl_le k j (List.contains_iff_mem.mp q); omega)]
  exact h j hj
theorem q_e0 {th pm : Nat → Bool} {on : Nat → Nat} {r1 r2 r3 N : Nat} (hw : ∀ j, th j = true → j < N) (hN : N ≤ 60) {k : Nat} (hk : th k = true) : k_Pm th pm on r1 r2 r3 k = k_P th on N r1 r2 r3 k := by
  rw [k_Pm, if_pos hk, Bool.false_or, k_P_eq hw hN (fun _ _ => rfl)]
theorem q_e1 {th pm : Nat → Bool} {on : Nat → Nat} {r1 r2 r3 N : Nat} (hw : ∀ j, th j = true → j < N) (hN : N ≤ 60) (k : Nat) : (th k && k_Pm th pm on r1 r2 r3 k) = k_P th on N r1 r2 r3 k := by
  cases hk : th k with
  | true => rw [q_e0 hw hN hk, Bool.true_and]
  | false =>
    cases hp : k_P th on N r1 r2 r3 k with
    | false => rfl
    | true => have := (k_P_th hp).1; rw [hk] at this; cases this
theorem q_Pge {th : Nat → Bool} {on : Nat → Nat} {r1 r2 r3 N k : Nat} (h : N ≤ k) : k_P th on N r1 r2 r3 k = false := by
  cases hp : k_P th on N r1 r2 r3 k with
  | false => rfl
  | true => have := (k_P_th hp).2; omega
theorem q_cntD {th pm dm : Nat → Bool} {on : Nat → Nat} {bs : Nat → Option Nat} {r1 r2 r3 N : Nat} (hw : ∀ j, th j = true → j < N) (hN : N ≤ 60) : k_cb (fun k => (th k && (k_Pm th pm on r1 r2 r3) k) && (k_cl bs k).any dm) 60 = k_cb (fun q => k_P th on N r1 r2 r3 q && (k_cl bs q).any dm) N :=
  k_cb_ext 60 hN (fun k _ => by rw [q_e1 hw hN]) (fun k hk => by rw [q_e1 hw hN, q_Pge hk, Bool.false_and])
theorem q_cntP {th pm : Nat → Bool} {on : Nat → Nat} {r1 r2 r3 N : Nat} (hw : ∀ j, th j = true → j < N) (hN : N ≤ 14) : k_cb (fun k => th k && (k_Pm th pm on r1 r2 r3) k) 60 = k_cb (k_P th on N r1 r2 r3) 14 :=
  (k_cb_ext (M := N) 60 (by omega) (fun k _ => q_e1 hw (by omega) k) (fun k hk => by rw [q_e1 hw (by omega), q_Pge hk])).trans (k_cb_ext (M := N) 14 hN (fun _ _ => rfl) (fun k hk => q_Pge hk)).symm
/-! thinning -/
theorem q_lp {p : Nat → Bool} {on : Nat → Nat} {N : Nat} (hmo : ∀ i j, i ≤ j → j < N → on i ≤ on j) (hd : ∀ k, k < N → on k < 2 ^ 31) : ∀ n, n ≤ N → k_lp p on n = q_pf p on n ∧ (k_lp p on n = -1 ∨ ∃ i, i < n ∧ k_lp p on n = nI (on i)) := by
  intro n
  induction n with
  | zero => intro _; exact ⟨rfl, Or.inl rfl⟩
  | succ n ih =>
    intro h
    obtain ⟨h1, h2⟩ := ih (by omega)
    cases hp : p n with
    | false =>
      rw [k_lp_n hp, q_pf, if_neg (by rw [hp]; decide)]
      exact ⟨h1, h2.imp id fun ⟨i, q1, q2⟩ => ⟨i, by omega, q2⟩⟩
    | true =>
      have e : k_lp p on (n + 1) = nI (on n) := by
        rw [k_lp_y hp]
        rcases h2 with h3 | ⟨i, h3, h4⟩
        · rw [h3, if_pos]
          rw [Int32.lt_iff_toInt_lt, nI_toInt (hd n (by omega))]
          have : (-1 : Int32).toInt = -1 := rfl
          omega
        · rw [h4]
          have h5 := hmo i n (by omega) (by omega)
          split
          · rfl
          · rename_i h6
            have h7 : ¬ on i < on n := fun q => h6 (nI_lt q (hd n (by omega)))
            rw [show on i = on n by omega]
      rw [e, q_pf, if_pos hp]
      exact ⟨rfl, Or.inr ⟨n, Nat.lt_succ_self _, rfl⟩⟩
theorem q_ndm {th P : Nat → Bool} {bs : Nat → Option Nat} {j : Nat} : ∀ n, (k_nd th P bs n j = true ↔ ∃ i, i < n ∧ th i = true ∧ P i = true ∧ j ∈ k_cl bs i) := by
  intro n
  induction n with
  | zero => exact ⟨(fun h => by cases h), fun ⟨i, h, _⟩ => absurd h (Nat.not_lt_zero _)⟩
  | succ n ih =>
    simp only [k_nd, Bool.or_eq_true, Bool.and_eq_true, List.contains_iff_mem, ih]
    constructor
    · rintro (⟨i, h1, h2⟩ | ⟨⟨h1, h2⟩, h3⟩)
      · exact ⟨i, by omega, h2⟩
      · exact ⟨n, Nat.lt_succ_self _, h1, h2, h3⟩
    · rintro ⟨i, h1, h2, h3, h4⟩
      by_cases hi : i = n
      · subst hi; exact Or.inr ⟨⟨h2, h3⟩, h4⟩
      · exact Or.inl ⟨i, by omega, h2, h3, h4⟩
theorem q_hlsub {th C : Nat → Bool} {bs : Nat → Option Nat} (hth : ∀ k b, th k = true → bs k = some b → th b = true) (hC : ∀ k b, th k = true → C k = true → bs k = some b → C b = true) : ∀ n (hd : Nat → Bool), (∀ j, th j = true → hd j = true → C j = true) → ∀ j, th j = true → k_hl th bs n hd j = true → C j = true := by
  intro n
  induction n with
  | zero => intro hd h j h1 h2; exact h j h1 h2
  | succ n ih =>
    intro hd h j h1 h2
    simp only [k_hl] at h2
    refine ih _ ?_ j h1 h2
    intro i hi hh
    by_cases hc : th n = true ∧ hd n = true
    · rw [if_pos hc] at hh
      cases hb : bs n with
      | none => rw [hb] at hh; exact h i hi hh
      | some b =>
        rw [hb] at hh
        have hh : va_up hd b true i = true := hh
        by_cases hib : i = b
        · subst hib; exact hC n i hc.1 (h n hc.1 hc.2) hb
        · rw [va_up_ne _ _ hib] at hh; exact h i hi hh
    · rw [if_neg hc] at hh; exact h i hi hh
theorem q_thin {th pm nd hd pv : Nat → Bool} {on : Nat → Nat} {bs : Nat → Option Nat} {r1 r2 r3 N : Nat} (hw : ∀ j, th j = true → j < N) (hN : N ≤ 60) (hbs : ∀ k b, k < N → bs k = some b → b < k) (hth : ∀ k b, th k = true → bs k = some b → th b = true) (hmo : ∀ i j, i ≤ j → j < N → on i ≤ on j) (hon : ∀ k, k < N → on k ≤ 360) :
    ∀ j, th j = true → k_Hd th (k_Nm th nd (k_Pm th pm on r1 r2 r3) bs) bs on hd (k_lp (fun k => th k && pv k) on 60) j = k_nd (fun _ => true) (q_ST th (k_nd th (k_P th on N r1 r2 r3) bs N) on (q_pf (fun q => th q && pv q) on N)) bs N j := by
  have hz : k_lp (fun k => th k && pv k) on 60 = q_pf (fun q => th q && pv q) on N := by
    rw [← (q_lp (p := fun q => th q && pv q) hmo (fun k hk => by have := hon k hk; omega) N (Nat.le_refl _)).1]
    exact k_lp_ext 60 hN (fun _ _ => rfl) (fun _ _ => rfl) (fun k hk => by
      cases h : th k with
      | false => rfl
      | true => have := hw k h; omega)
  rw [hz]
  generalize q_pf (fun q => th q && pv q) on N = z
  have hnm : ∀ k, th k = true → k_Nm th nd (k_Pm th pm on r1 r2 r3) bs k = k_nd th (k_P th on N r1 r2 r3) bs N k := by
    intro k hk
    have e1 : ∀ i, k_nd th (k_Pm th pm on r1 r2 r3) bs i k = k_nd th (k_P th on N r1 r2 r3) bs i k := by
      intro i
      induction i with
      | zero => rfl
      | succ i ih =>
        simp only [k_nd, ih]
        cases hi : th i with
        | false => simp
        | true => rw [q_e0 hw hN hi]
    rw [k_Nm, k_N0, if_pos hk, Bool.false_or, e1, k_nd_60 hw 60 hN]
  generalize k_Nm th nd (k_Pm th pm on r1 r2 r3) bs = NM at hnm
  have hndth : ∀ k, k_nd th (k_P th on N r1 r2 r3) bs N k = true → th k = true := by
    intro k hk
    obtain ⟨i, h1, h2, h3, h4⟩ := (q_ndm N).mp hk
    exact k_nd_closed (nd := th) hth (fun j b q1 _ q3 => hth j b q1 q3) (fun j b q1 q2 => hbs j b (hw j q1) q2) i h2 h2 k h4
  generalize k_nd th (k_P th on N r1 r2 r3) bs N = ND at hnm hndth
  have hst : ∀ k, th k = true → k_H0 th NM on hd z k = q_ST th ND on z k := by
    intro k hk
    rw [k_H0, if_pos hk, hnm k hk, q_ST, hk, Bool.true_and, Bool.true_and]
    cases ND k with
    | true => rfl
    | false =>
      by_cases h : nI (on k) < z
      · rw [decide_eq_true h, decide_eq_false (Int32.not_le.mpr h)]; rfl
      · rw [decide_eq_false h, decide_eq_true (Int32.not_lt.mp h)]; rfl
  have hstth : ∀ k, q_ST th ND on z k = true → th k = true := by
    intro k hk
    rw [q_ST, Bool.or_eq_true] at hk
    rcases hk with h | h
    · exact hndth k h
    · exact (Bool.and_eq_true _ _ |>.mp h).1
  have hdn : ∀ k b, th k = true → bs k = some b → b < k := fun k b q1 q2 => hbs k b (hw k q1) q2
  intro j hj
  rw [Bool.eq_iff_iff]
  constructor
  · refine q_hlsub (C := k_nd (fun _ => true) (q_ST th ND on z) bs N) hth (fun k b q1 q2 q3 => k_nd_next q3 (hdn k b q1 q3) N q2) 60 _ (fun i hi h0 => ?_) j hj
    rw [hst i hi] at h0
    exact (q_ndm N).mpr ⟨i, hw i hi, rfl, h0, by rw [k_cl]; exact List.mem_cons_self⟩
  · intro h
    obtain ⟨i, h1, -, h3, h4⟩ := (q_ndm N).mp h
    have hi := hstth i h3
    have hh : k_hl th bs 60 (k_H0 th NM on hd z) i = true := k_hl_mono 60 _ i (by rw [hst i hi]; exact h3)
    exact k_nd_closed (nd := k_hl th bs 60 (k_H0 th NM on hd z)) hth (fun k b q1 q2 q3 => k_hl_base hdn 60 _ k b (by have := hw k q1; omega) q1 q3 q2) hdn i hi hh j h4
theorem q_thcl {th KP : Nat → Bool} {P : Nat → Bool} {bs : Nat → Option Nat} {N : Nat} (hbs : ∀ k b, th k = true → bs k = some b → b < k) (hth : ∀ k b, th k = true → bs k = some b → th b = true) (hK : ∀ j, th j = true → KP j = k_nd (fun _ => true) P bs N j) : ∀ k b, (th k && KP k) = true → bs k = some b → (th b && KP b) = true := by
  intro k b h hb
  obtain ⟨h1, h2⟩ := Bool.and_eq_true _ _ |>.mp h
  have h3 := hth k b h1 hb
  rw [h3, hK b h3, Bool.true_and]
  exact k_nd_next hb (hbs k b h1 hb) N (by rw [← hK k h1]; exact h2)
/-! the rota -/
def q_ad (p : Nat → Nat) : Nat → Bool
  | 0 => true
  | k + 1 => q_ad p k && decide (¬ p k = p (k + 1))
theorem q_adm {p : Nat → Nat} : ∀ n, (q_ad p n = true ↔ ∀ k, k < n → ¬ p k = p (k + 1)) := by
  intro n
  induction n with
  | zero => exact ⟨fun _ k hk => absurd hk (Nat.not_lt_zero _), fun _ => rfl⟩
  | succ n ih =>
    rw [q_ad, Bool.and_eq_true, ih, decide_eq_true_iff]
    constructor
    · rintro ⟨h1, h2⟩ k hk
      by_cases hn : k = n
      · subst hn; exact h2
      · exact h1 k (by omega)
    · intro h
      exact ⟨fun k hk => h k (by omega), h n (Nat.lt_succ_self _)⟩
theorem q_restm {p : Nat → Nat} {d : Nat} (hd : d < 63) : k_rest p d = true ↔ (d = 0 ∨ ¬ p d = p (d - 1)) ∧ ¬ p d = p (d + 1) := by
  simp only [k_rest, Bool.and_eq_true, Bool.or_eq_true, decide_eq_true_eq, ne_eq]
  constructor
  · rintro ⟨h1, h2 | h2⟩
    · omega
    · exact ⟨h1, h2⟩
  · rintro ⟨h1, h2⟩
    exact ⟨h1, Or.inr h2⟩
theorem q_rest {p : Nat → Nat} {a b : Nat} (hp : ∀ k, k < 63 → p k ≠ p (k + 1)) (ha : a < 63) (hb : b < 63) : q_ad (k_ex p a b) 63 = (k_rest (k_ex p a b) a && k_rest (k_ex p a b) b) := by
  have ho : ∀ i, i ≠ a → i ≠ b → k_ex p a b i = p i := fun i h1 h2 => by rw [k_ex, va_up_ne _ _ h2, va_up_ne _ _ h1]
  generalize k_ex p a b = q at ho
  rw [Bool.eq_iff_iff, q_adm, Bool.and_eq_true, q_restm ha, q_restm hb]
  constructor
  · intro h
    refine ⟨⟨?_, h a ha⟩, ?_, h b hb⟩
    · rcases Nat.eq_zero_or_pos a with h0 | h0
      · exact Or.inl h0
      · exact Or.inr fun e => h (a - 1) (by omega) (by rw [show a - 1 + 1 = a by omega]; exact e.symm)
    · rcases Nat.eq_zero_or_pos b with h0 | h0
      · exact Or.inl h0
      · exact Or.inr fun e => h (b - 1) (by omega) (by rw [show b - 1 + 1 = b by omega]; exact e.symm)
  · rintro ⟨⟨h1, h2⟩, h3, h4⟩ k hk
    by_cases e1 : k = a
    · subst e1; exact h2
    by_cases e2 : k = b
    · subst e2; exact h4
    by_cases e3 : k + 1 = a
    · intro e
      rcases h1 with h1 | h1
      · omega
      · exact h1 (by rw [← e3]; exact e.symm)
    by_cases e4 : k + 1 = b
    · intro e
      rcases h3 with h3 | h3
      · omega
      · exact h3 (by rw [← e4]; exact e.symm)
    rw [ho k e1 e2, ho (k + 1) e3 e4]
    exact hp k hk
theorem q_ex {p : Nat → Nat} {w : Nat → Int32} {a b : Nat} (h : ∀ k, k < 64 → w k = nI (p k)) : ∀ k, k < 64 → va_up (va_up w a (nI (p b))) b (nI (p a)) k = nI (k_ex p a b k) := by
  intro k hk
  rw [k_ex]
  by_cases h1 : k = b
  · subst h1; rw [va_up_self, va_up_self]
  · rw [va_up_ne _ _ h1, va_up_ne _ _ h1]
    by_cases h2 : k = a
    · subst h2; rw [va_up_self, va_up_self]
    · rw [va_up_ne _ _ h2, va_up_ne _ _ h2]; exact h k hk
theorem q_exb {p : Nat → Nat} {w : Nat → Int32} {a b : Nat} (h : ∀ k, k < 64 → w k = nI (p k)) : ∀ k, k < 64 → va_up (va_up (va_up (va_up w a (nI (p b))) b (nI (p a))) b (nI (p b))) a (nI (p a)) k = w k := by
  intro k hk
  by_cases h1 : k = a
  · subst h1; rw [va_up_self, h k hk]
  · rw [va_up_ne _ _ h1]
    by_cases h2 : k = b
    · subst h2; rw [va_up_self, h k hk]
    · rw [va_up_ne _ _ h2, va_up_ne _ _ h2, va_up_ne _ _ h1]
theorem q_exat {p : Nat → Nat} {a b : Nat} (hab : a ≠ b) : k_ex p a b a = p b := by rw [k_ex, va_up_ne _ _ hab, va_up_self]
/-! the law's marks of change -/
theorem q_mx1 {X : Nat → Int32} {G : Nat → Int32} {k : Nat} (h : ∀ i, i < k → X (42 + i) = G i) {v : Int32} (hv : v = G k) : ∀ i, i < k + 1 → va_up X (42 + k) v (42 + i) = G i := by
  intro i hi
  by_cases h1 : i = k
  · subst h1; rw [va_up_self]; exact hv
  · rw [va_up_ne _ _ (by omega)]; exact h i (by omega)
theorem q_mx2 {X w : Nat → Int32} {k : Nat} (h : ∀ i, (i < 42 ∨ 42 + k ≤ i) → X i = w i) {v : Int32} : ∀ i, (i < 42 ∨ 42 + (k + 1) ≤ i) → va_up X (42 + k) v i = w i := by
  intro i hi
  rw [va_up_ne _ _ (by omega)]
  exact h i (by omega)
theorem q_same {α : Type} {f : Nat → α} {k : Nat} {v : α} (h : v = f k) : ∀ i, va_up f k v i = f i := by
  intro i
  by_cases hi : i = k
  · subst hi; rw [va_up_self]; exact h
  · exact va_up_ne _ _ hi
theorem q_J.A9 {e : Nat} {t : k_T} (J : q_J e t) {M : Nat → Int32} (h0 : M 0 = w_m t 0) (h2 : M 2 = w_m t 2) : q_A (set_w_m t M) (s_md t) (s_th t) (o_on t) (o_b t) := ⟨J.A.n14, h0.trans J.A.m0, h2.trans J.A.m2, J.A.th, J.A.x0, J.A.d, J.A.mo, J.A.x1, J.A.bs⟩
