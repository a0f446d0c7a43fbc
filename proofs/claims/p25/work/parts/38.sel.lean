/-! WHAT THE LAW'S promised COUNTS, over the copies k + 1 .. j - 1 that are there: the last period met, how many were met, whether none is k's -/
def q_lt (th : Nat → Bool) (pd : Nat → Nat) (k : Nat) : Nat → Int32
  | 0 => -1
  | j + 1 => if k < j ∧ th j = true then nI (pd j) else q_lt th pd k j
def q_tm (th : Nat → Bool) (pd : Nat → Nat) (k : Nat) : Nat → Nat
  | 0 => 0
  | j + 1 => if k < j ∧ th j = true then (if nI (pd j) = q_lt th pd k j then q_tm th pd k j else q_tm th pd k j + 1) else q_tm th pd k j
def q_lo (th : Nat → Bool) (pd : Nat → Nat) (k : Nat) : Nat → Bool
  | 0 => true
  | j + 1 => if k < j ∧ th j = true then (q_lo th pd k j && decide (¬ pd j = pd k)) else q_lo th pd k j
theorem q_in {th : Nat → Bool} {pd : Nat → Nat} {k : Nat} : ∀ j, j ≤ k + 1 → q_lt th pd k j = -1 ∧ q_tm th pd k j = 0 ∧ q_lo th pd k j = true := by
  intro j
  induction j with
  | zero => intro _; exact ⟨rfl, rfl, rfl⟩
  | succ j ih =>
    intro h
    have hn : ¬ (k < j ∧ th j = true) := fun q => by omega
    simp only [q_lt, q_tm, q_lo, if_neg hn]
    exact ih (by omega)
theorem q_tm0 {th : Nat → Bool} {pd : Nat → Nat} {k : Nat} : ∀ N, (∀ j, j < N → pd j < 2 ^ 31) → (q_tm th pd k N = 0 ↔ q_lt th pd k N = -1) := by
  intro N
  induction N with
  | zero => intro _; exact ⟨fun _ => rfl, fun _ => rfl⟩
  | succ N ih =>
    intro hp
    have h1 := ih (fun j hj => hp j (by omega))
    simp only [q_tm, q_lt]
    split
    · have hne : ¬ nI (pd N) = -1 := k_nm1 (hp N (by omega))
      refine ⟨fun h => absurd h ?_, fun h => absurd h hne⟩
      split
      · rename_i h2
        intro h3
        exact hne (h2.trans (h1.mp h3))
      · omega
    · exact h1
theorem q_tmle {th : Nat → Bool} {pd : Nat → Nat} {k : Nat} : ∀ N, q_tm th pd k N ≤ N := by
  intro N
  induction N with
  | zero => exact Nat.le_refl _
  | succ N ih => simp only [q_tm]; split <;> (try split) <;> omega
/-- the class's choice from the back is the law's count -/
theorem q_sel {th : Nat → Bool} {pd : Nat → Nat} {k : Nat} : ∀ N left time, (∀ i j, i ≤ j → j < N → pd i ≤ pd j) → (∀ j, j < N → pd j < 2 ^ 31) → (time = -1 ∨ ∃ p, p < 2 ^ 31 ∧ time = nI p ∧ ∀ j, j < N → pd j ≤ p) → k < N →
    (k_sel th pd N left time k = true ↔ th k = true ∧ q_lo th pd k N = true ∧ ¬ nI (pd k) = time ∧ (if q_lt th pd k N = time then q_tm th pd k N - 1 else q_tm th pd k N) < left) := by
  intro N
  induction N with
  | zero => intro left time _ _ _ h; omega
  | succ N ih =>
    intro left time hm hp ht hk
    by_cases hl : left = 0
    · subst hl
      rw [k_sel_0]
      exact ⟨(fun h => by cases h), fun h => absurd h.2.2.2 (Nat.not_lt_zero _)⟩
    have hpos : 0 < left := Nat.pos_of_ne_zero hl
    by_cases hkN : k = N
    · subst hkN
      obtain ⟨e1, e2, e3⟩ := q_in (th := th) (pd := pd) (k := k) (k + 1) (Nat.le_refl _)
      rw [e1, e2, e3]
      by_cases h : th k = true ∧ ¬ nI (pd k) = time
      · rw [k_sel_y hpos h.1 h.2, decide_eq_true rfl, Bool.true_or]
        refine ⟨fun _ => ⟨h.1, rfl, h.2, ?_⟩, fun _ => rfl⟩
        split <;> omega
      · rw [k_sel_n h]
        exact ⟨fun q => absurd (k_sel_th _ _ _ _ q).2 (Nat.lt_irrefl _), fun q => absurd ⟨q.1, q.2.2.1⟩ h⟩
    · have hk2 : k < N := by omega
      have hmN := fun i j (h1 : i ≤ j) (h2 : j < N) => hm i j h1 (by omega)
      have hpN := fun j (h1 : j < N) => hp j (by omega)
      have h0 := q_tm0 (th := th) (k := k) N hpN
      have hpk := hp k hk
      have hpn := hp N (Nat.lt_succ_self _)
      have hle := hm k N (by omega) (Nat.lt_succ_self _)
      have hnn : ¬ nI (pd N) = -1 := k_nm1 hpn
      by_cases h : th N = true ∧ ¬ nI (pd N) = time
      · rw [k_sel_y hpos h.1 h.2, decide_eq_false hkN, Bool.false_or]
        rw [ih (left - 1) (nI (pd N)) hmN hpN (Or.inr ⟨pd N, hpn, rfl, fun j hj => hm j N (by omega) (Nat.lt_succ_self _)⟩) hk2]
        simp only [q_lo, q_lt, q_tm, if_pos (And.intro hk2 h.1)]
        have hkt : ¬ nI (pd k) = nI (pd N) → ¬ nI (pd k) = time := fun h1 h2 => by
          rcases ht with h3 | ⟨p, h3, h4, h5⟩
          · exact k_nm1 hpk (h2.trans h3)
          · have h6 := (nI_eq hpk h3).mp (h2.trans h4)
            have h7 := h5 N (Nat.lt_succ_self _)
            exact h1 (congrArg nI (by omega))
        have hd : (decide (¬ pd N = pd k) = true) ↔ ¬ nI (pd k) = nI (pd N) := by
          rw [decide_eq_true_iff, nI_eq hpk hpn]
          exact ⟨fun q1 q2 => q1 q2.symm, fun q1 q2 => q1 q2.symm⟩
        rw [Bool.and_eq_true, hd, if_neg h.2]
        have hc : ((if q_lt th pd k N = nI (pd N) then q_tm th pd k N - 1 else q_tm th pd k N) < left - 1) ↔ (if nI (pd N) = q_lt th pd k N then q_tm th pd k N else q_tm th pd k N + 1) < left := by
          by_cases hq : q_lt th pd k N = nI (pd N)
          · rw [if_pos hq, if_pos hq.symm]
            have : q_tm th pd k N ≠ 0 := fun q => hnn (hq.symm.trans (h0.mp q))
            omega
          · rw [if_neg hq, if_neg (fun q => hq q.symm)]
            omega
        rw [hc]
        exact ⟨fun q => ⟨q.1, ⟨q.2.1, q.2.2.1⟩, hkt q.2.2.1, q.2.2.2⟩, fun q => ⟨q.1, q.2.1.1, q.2.1.2, q.2.2.2⟩⟩
      · rw [k_sel_n h]
        rw [ih left time hmN hpN (ht.imp id fun ⟨p, q1, q2, q3⟩ => ⟨p, q1, q2, fun j hj => q3 j (by omega)⟩) hk2]
        by_cases hth : th N = true
        · have hT : nI (pd N) = time := Classical.byContradiction fun q => h ⟨hth, q⟩
          subst hT
          simp only [q_lo, q_lt, q_tm, if_pos (And.intro hk2 hth), if_true]
          have hd : (decide (¬ pd N = pd k) = true) ↔ ¬ nI (pd k) = nI (pd N) := by
            rw [decide_eq_true_iff, nI_eq hpk hpn]
            exact ⟨fun q1 q2 => q1 q2.symm, fun q1 q2 => q1 q2.symm⟩
          rw [Bool.and_eq_true, hd]
          have hc : ((if q_lt th pd k N = nI (pd N) then q_tm th pd k N - 1 else q_tm th pd k N) < left) ↔ (if nI (pd N) = q_lt th pd k N then q_tm th pd k N else q_tm th pd k N + 1) - 1 < left := by
            by_cases hq : q_lt th pd k N = nI (pd N)
            · rw [if_pos hq, if_pos hq.symm]
            · rw [if_neg hq, if_neg (fun q => hq q.symm)]
              omega
          rw [hc]
          exact ⟨fun q => ⟨q.1, ⟨q.2.1, q.2.2.1⟩, q.2.2.1, q.2.2.2⟩, fun q => ⟨q.1, q.2.1.1, q.2.2.1, q.2.2.2⟩⟩
        · have hnt : ¬ (k < N ∧ th N = true) := fun q => hth q.2
          simp only [q_lo, q_lt, q_tm, if_neg hnt]
theorem q_sel1 {th : Nat → Bool} {pd : Nat → Nat} {k N w : Nat} (hm : ∀ i j, i ≤ j → j < N → pd i ≤ pd j) (hp : ∀ j, j < N → pd j < 2 ^ 31) (hk : k < N) : k_sel th pd N w (-1) k = (th k && (q_lo th pd k N && decide (q_tm th pd k N < w))) := by
  have h := q_sel (th := th) (pd := pd) (k := k) N w (-1) hm hp (Or.inl rfl) hk
  have h0 := q_tm0 (th := th) (k := k) N hp
  have e : (if q_lt th pd k N = -1 then q_tm th pd k N - 1 else q_tm th pd k N) = q_tm th pd k N := by
    by_cases hq : q_lt th pd k N = -1
    · rw [if_pos hq, h0.mpr hq]
    · rw [if_neg hq]
  rw [e] at h
  rw [Bool.eq_iff_iff, h, Bool.and_eq_true, Bool.and_eq_true, decide_eq_true_iff]
  exact ⟨fun q => ⟨q.1, q.2.1, q.2.2.2⟩, fun q => ⟨q.1, q.2.1, k_nm1 (hp k hk), q.2.2⟩⟩
/-! one step of the count -/
theorem q_s1 {th : Nat → Bool} {pd : Nat → Nat} {k j : Nat} (h : th j = false) : q_lt th pd k (j + 1) = q_lt th pd k j ∧ q_tm th pd k (j + 1) = q_tm th pd k j ∧ q_lo th pd k (j + 1) = q_lo th pd k j := by
  have hn : ¬ (k < j ∧ th j = true) := fun q => by rw [h] at q; cases q.2
  simp only [q_lt, q_tm, q_lo, if_neg hn]
  exact ⟨trivial, trivial, trivial⟩
theorem q_slt {th : Nat → Bool} {pd : Nat → Nat} {k j : Nat} (hk : k < j) (h : th j = true) : q_lt th pd k (j + 1) = nI (pd j) := by simp only [q_lt, if_pos (And.intro hk h)]
theorem q_stm {th : Nat → Bool} {pd : Nat → Nat} {k j : Nat} (hk : k < j) (h : th j = true) {tm : Nat} {lt : Int32} (h1 : tm = q_tm th pd k j) (h2 : lt = q_lt th pd k j) (h3 : ¬ nI (pd j) = lt) : tm + 1 = q_tm th pd k (j + 1) := by
  simp only [q_tm, if_pos (And.intro hk h)]; subst h1; subst h2; rw [if_neg h3]
theorem q_stm0 {th : Nat → Bool} {pd : Nat → Nat} {k j : Nat} (hk : k < j) (h : th j = true) {tm : Nat} {lt : Int32} (h1 : tm = q_tm th pd k j) (h2 : lt = q_lt th pd k j) (h3 : nI (pd j) = lt) : tm = q_tm th pd k (j + 1) := by
  simp only [q_tm, if_pos (And.intro hk h)]; subst h1; subst h2; rw [if_pos h3]
theorem q_slo {th : Nat → Bool} {pd : Nat → Nat} {k j : Nat} (hk : k < j) (h : th j = true) {lo b : Bool} (h1 : lo = q_lo th pd k j) (h3 : b = (lo && decide (¬ pd j = pd k))) : b = q_lo th pd k (j + 1) := by
  simp only [q_lo, if_pos (And.intro hk h)]; subst h1; exact h3
/-- the marks chosen among the first k, over what an earlier rule chose -/
theorem q_pk {A S Pm : Nat → Bool} {k : Nat} (h : ∀ j, Pm j = (A j || (decide (j < k) && S j))) (hs : S k = true) : ∀ j, va_up Pm k true j = (A j || (decide (j < k + 1) && S j)) := by
  intro j
  by_cases hj : j = k
  · subst hj; rw [va_up_self, hs, decide_eq_true (Nat.lt_succ_self _)]; simp
  · rw [va_up_ne _ _ hj, h j, show decide (j < k + 1) = decide (j < k) from decide_eq_decide.mpr ⟨fun q => by omega, fun q => by omega⟩]
theorem q_pk0 {A S Pm : Nat → Bool} {k : Nat} (h : ∀ j, Pm j = (A j || (decide (j < k) && S j))) (hs : S k = false) : ∀ j, Pm j = (A j || (decide (j < k + 1) && S j)) := by
  intro j
  rw [h j]
  by_cases hj : j = k
  · subst hj; rw [hs]; simp
  · rw [show decide (j < k + 1) = decide (j < k) from decide_eq_decide.mpr ⟨fun q => by omega, fun q => by omega⟩]
theorem q_pk_in {A S : Nat → Bool} : ∀ j, A j = (A j || (decide (j < 0) && S j)) := fun j => by simp
theorem q_pk_end {A S Pm : Nat → Bool} {k : Nat} (h : ∀ j, Pm j = (A j || (decide (j < k) && S j))) (hs : ∀ j, S j = true → j < k) : Pm = fun j => A j || S j := funext fun j => by
  rw [h j]
  cases e : S j with
  | false => simp
  | true => rw [decide_eq_true (hs j e)]; simp
