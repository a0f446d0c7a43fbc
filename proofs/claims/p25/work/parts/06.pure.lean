/-! pure words: logs, counts, chains -/
theorem k_up_id {α : Type} (f : Nat → α) (k : Nat) : va_up f k (f k) = f := by
  funext j; by_cases h : j = k <;> simp [va_up, h]
/-- the content of a file behind the first m changes -/
def k_log (lf : Nat → Nat) (lt : Nat → Int32) : Nat → Nat → Int32
  | 0, _ => 0
  | m + 1, f => if lf m = f then lt m else k_log lf lt m f
/-- how many of the first n places are kept -/
def k_cn (K : Nat → Int32) : Nat → Nat
  | 0 => 0
  | n + 1 => k_cn K n + (if K n = -1 then 0 else 1)
abbrev k_cnt (K : Nat → Int32) : Nat := k_cn K 10
theorem k_cn_le (K : Nat → Int32) (n : Nat) : k_cn K n ≤ n := by
  induction n with
  | zero => exact Nat.le_refl _
  | succ n ih => simp only [k_cn]; split <;> omega
theorem k_cn_up_ge {K : Nat → Int32} {j n : Nat} {v : Int32} (h : n ≤ j) : k_cn (va_up K j v) n = k_cn K n := by
  induction n with
  | zero => rfl
  | succ n ih => simp only [k_cn, ih (by omega), va_up_ne K v (show n ≠ j by omega)]
theorem k_cn_new {K : Nat → Int32} {j n : Nat} {v : Int32} (hj : j < n) (hv : v ≠ -1) (hk : K j = -1) : k_cn (va_up K j v) n = k_cn K n + 1 := by
  induction n with
  | zero => omega
  | succ n ih =>
    by_cases h : j = n
    · subst h
      simp only [k_cn, k_cn_up_ge (Nat.le_refl j), va_up_self, if_neg hv, if_pos hk]
    · simp only [k_cn, ih (by omega), va_up_ne K v (show n ≠ j by omega)]
      omega
theorem k_cn_old {K : Nat → Int32} {j n : Nat} {v : Int32} (hv : v ≠ -1) (hk : K j ≠ -1) : k_cn (va_up K j v) n = k_cn K n := by
  induction n with
  | zero => rfl
  | succ n ih =>
    by_cases h : n = j
    · subst h
      simp only [k_cn, ih, va_up_self, if_neg hv, if_neg hk]
    · simp only [k_cn, ih, va_up_ne K v h]
theorem k_cnt_new {K : Nat → Int32} {j : Nat} {v : Int32} (hj : j < 10) (hv : v ≠ -1) (hk : K j = -1) : k_cnt (va_up K j v) = k_cnt K + 1 := k_cn_new hj hv hk
theorem k_cnt_old {K : Nat → Int32} {j : Nat} {v : Int32} (hv : v ≠ -1) (hk : K j ≠ -1) : k_cnt (va_up K j v) = k_cnt K := k_cn_old hv hk
/-- whether a file was changed among the changes a .. i - 1 -/
def k_chd (lf : Nat → Nat) (a : Nat) : Nat → Nat → Bool
  | 0, _ => false
  | i + 1, f => k_chd lf a i f || (decide (a ≤ i) && decide (lf i = f))
theorem k_chd_0 {lf : Nat → Nat} {a f : Nat} : ∀ {i : Nat}, i ≤ a → k_chd lf a i f = false := by
  intro i
  induction i with
  | zero => intro _; rfl
  | succ i ih => intro h; simp only [k_chd, ih (by omega), Bool.false_or]; simp; omega
theorem k_ka_step {K F O : Nat → Int32} {i : Nat} (h : ∀ f, K f = if f < i then F f else O f) : ∀ f, va_up K i (F i) f = if f < i + 1 then F f else O f := by
  intro f
  by_cases hf : f = i
  · subst hf; simp [va_up]
  · rw [va_up_ne _ _ hf, h]
    by_cases h2 : f < i
    · rw [if_pos h2, if_pos (by omega)]
    · rw [if_neg h2, if_neg (by omega)]
theorem k_kc_step {K F O : Nat → Int32} {lf : Nat → Nat} {a i : Nat} (hai : a ≤ i) (h : ∀ f, K f = if k_chd lf a i f = true then F f else O f) : ∀ f, va_up K (lf i) (F (lf i)) f = if k_chd lf a (i + 1) f = true then F f else O f := by
  intro f
  by_cases hf : f = lf i
  · subst hf; simp [va_up, k_chd, hai]
  · rw [va_up_ne _ _ hf, h]
    simp only [k_chd, show decide (lf i = f) = false from decide_eq_false (fun q => hf q.symm), Bool.and_false, Bool.or_false]
/-- the chain of a copy, itself first -/
def k_cl (bs : Nat → Option Nat) (k : Nat) : List Nat := k :: (match bs k with | none => [] | some b => if h : b < k then k_cl bs b else [])
termination_by k
def k_clo (bs : Nat → Option Nat) : Option Nat → List Nat
  | none => []
  | some k => k_cl bs k
theorem k_clo_some {bs : Nat → Option Nat} {k : Nat} (hd : ∀ b, bs k = some b → b < k) : k_clo bs (some k) = k :: k_clo bs (bs k) := by
  show k_cl bs k = _
  rw [k_cl]
  cases h : bs k with
  | none => rfl
  | some b => simp only [dif_pos (hd b h)]; rfl
theorem k_cl_none {bs : Nat → Option Nat} {k : Nat} (h : bs k = none) : k_cl bs k = [k] := by
  rw [k_cl, h]
theorem k_cl_cons {bs : Nat → Option Nat} {k b : Nat} (h : bs k = some b) (hb : b < k) : k_cl bs k = k :: k_cl bs b := by
  rw [k_cl, h]; simp only [dif_pos hb]
theorem k_cl_le {bs : Nat → Option Nat} : ∀ (k j : Nat), j ∈ k_cl bs k → j ≤ k := by
  intro k
  induction k using Nat.strongRecOn with
  | ind k ih =>
    intro j hj
    rw [k_cl] at hj
    rcases List.mem_cons.mp hj with h | h
    · omega
    · cases hb : bs k with
      | none => rw [hb] at h; cases h
      | some b =>
        rw [hb] at h
        by_cases hlt : b < k
        · simp only [dif_pos hlt] at h
          have := ih b hlt j h
          omega
        · simp only [dif_neg hlt] at h; cases h
/-- the first content kept along a chain -/
def k_fk (K : Nat → Nat → Int32) (f : Nat) : List Nat → Int32
  | [] => -1
  | k :: r => if K k f = -1 then k_fk K f r else K k f
/-- how many of the first n are so -/
def k_cb (p : Nat → Bool) : Nat → Nat
  | 0 => 0
  | n + 1 => if p n = true then k_cb p n + 1 else k_cb p n
theorem k_cb_le (p : Nat → Bool) (n : Nat) : k_cb p n ≤ n := by
  induction n with
  | zero => exact Nat.le_refl _
  | succ n ih => simp only [k_cb]; split <;> omega
/-- the sum of v over those of the first n that are so -/
def k_sm (p : Nat → Bool) (v : Nat → Nat) : Nat → Nat
  | 0 => 0
  | n + 1 => if p n = true then k_sm p v n + v n else k_sm p v n
theorem k_sm_le {p : Nat → Bool} {v : Nat → Nat} {M : Nat} : ∀ (n : Nat), (∀ k, k < n → p k = true → v k ≤ M) → k_sm p v n ≤ n * M := by
  intro n
  induction n with
  | zero => intro _; simp [k_sm]
  | succ n ih =>
    intro h
    have h1 := ih (fun k hk hp => h k (by omega) hp)
    have h3 : (n + 1) * M = n * M + M := Nat.succ_mul n M
    simp only [k_sm]
    split
    · rename_i hp
      have h2 := h n (by omega) hp
      omega
    · omega
def k_pd (kd d : Nat) : Nat := if kd = 1 then d / 7 else if kd = 2 then d / 28 else d
/-- whether a copy is chosen when one goes from the back over the first i, so many periods left, the last period being time -/
def k_sel (th : Nat → Bool) (pd : Nat → Nat) : Nat → Nat → Int32 → Nat → Bool
  | 0, _, _, _ => false
  | i + 1, left, time, k => if left = 0 then false else if th i = true ∧ ¬ nI (pd i) = time then (decide (k = i) || k_sel th pd i (left - 1) (nI (pd i)) k) else k_sel th pd i left time k
theorem k_sel_0 (th : Nat → Bool) (pd : Nat → Nat) (i : Nat) (time : Int32) (k : Nat) : k_sel th pd i 0 time k = false := by
  cases i <;> simp [k_sel]
theorem k_sel_y {th : Nat → Bool} {pd : Nat → Nat} {i left : Nat} {time : Int32} {k : Nat} (hl : 0 < left) (h : th i = true) (ht : ¬ nI (pd i) = time) : k_sel th pd (i + 1) left time k = (decide (k = i) || k_sel th pd i (left - 1) (nI (pd i)) k) := by
  simp only [k_sel, if_neg (Nat.pos_iff_ne_zero.mp hl), if_pos (And.intro h ht)]
theorem k_sel_n {th : Nat → Bool} {pd : Nat → Nat} {i left : Nat} {time : Int32} {k : Nat} (h : ¬ (th i = true ∧ ¬ nI (pd i) = time)) : k_sel th pd (i + 1) left time k = k_sel th pd i left time k := by
  by_cases hl : left = 0
  · subst hl; rw [k_sel_0, k_sel_0]
  · simp only [k_sel, if_neg hl, if_neg h]
/-- promised by one of the three rules, over what was marked before -/
def k_P (th : Nat → Bool) (on : Nat → Nat) (N r1 r2 r3 : Nat) (k : Nat) : Bool := k_sel th (fun j => k_pd 0 (on j)) N r1 (-1) k || (k_sel th (fun j => k_pd 1 (on j)) N r2 (-1) k || k_sel th (fun j => k_pd 2 (on j)) N r3 (-1) k)
/-- needed: in the chain of a promised one among the first i -/
def k_nd (th P : Nat → Bool) (bs : Nat → Option Nat) : Nat → Nat → Bool
  | 0, _ => false
  | i + 1, j => k_nd th P bs i j || (th i && P i && (k_cl bs i).contains j)
/-- the latest day of a proved copy among the first n -/
def k_lp (p : Nat → Bool) (on : Nat → Nat) : Nat → Int32
  | 0 => -1
  | n + 1 => if p n = true then (if k_lp p on n < nI (on n) then nI (on n) else k_lp p on n) else k_lp p on n
/-- held from the back -/
def k_hl (th : Nat → Bool) (bs : Nat → Option Nat) : Nat → (Nat → Bool) → Nat → Bool
  | 0, hd => hd
  | i + 1, hd => k_hl th bs i (if th i = true ∧ hd i = true then (match bs i with | none => hd | some b => va_up hd b true) else hd)
theorem k_pv_step {l : List Nat} {k : Nat} {v : Bool} {PV TG : Nat → Bool} (h : ∀ j, TG j = if (k :: l).contains j = true then v else PV j) : ∀ j, TG j = if l.contains j = true then v else va_up PV k v j := by
  intro j
  rw [h j, List.contains_cons]
  by_cases hj : j = k
  · subst hj; simp [va_up]
  · rw [va_up_ne _ _ hj, show (j == k) = false from beq_eq_false_iff_ne.mpr hj, Bool.false_or]
theorem k_nd_closed {th nd : Nat → Bool} {bs : Nat → Option Nat} (hth : ∀ j b, th j = true → bs j = some b → th b = true) (hnc : ∀ j b, th j = true → nd j = true → bs j = some b → nd b = true) (hd : ∀ j b, th j = true → bs j = some b → b < j) : ∀ k, th k = true → nd k = true → ∀ j, j ∈ k_cl bs k → nd j = true := by
  intro k
  induction k using Nat.strongRecOn with
  | ind k ih =>
    intro h1 h2 j hj
    cases hb : bs k with
    | none =>
      rw [k_cl_none hb] at hj
      rw [List.mem_singleton.mp hj]; exact h2
    | some b =>
      rw [k_cl_cons hb (hd k b h1 hb)] at hj
      rcases List.mem_cons.mp hj with h | h
      · rw [h]; exact h2
      · exact ih b (hd k b h1 hb) (hth k b h1 hb) (hnc k b h1 h2 hb) j h
theorem k_nd_step {l : List Nat} {k : Nat} {N TG : Nat → Bool} (h : ∀ j, TG j = (N j || (k :: l).contains j)) : ∀ j, TG j = (va_up N k true j || l.contains j) := by
  intro j
  rw [h j, List.contains_cons]
  by_cases hj : j = k
  · subst hj; simp [va_up]
  · rw [va_up_ne _ _ hj, show (j == k) = false from beq_eq_false_iff_ne.mpr hj, Bool.false_or]
theorem k_nd_stop {l : List Nat} {N TG : Nat → Bool} (h : ∀ j, TG j = (N j || l.contains j)) (hc : ∀ j, j ∈ l → N j = true) : N = TG := by
  funext j
  rw [h j]
  by_cases hj : j ∈ l
  · rw [hc j hj]; rfl
  · rw [show l.contains j = false by simpa using hj, Bool.or_false]
theorem k_nd_h1 {N nd : Nat → Bool} {k : Nat} {nx : Option Nat} (h1 : ∀ j, N j = true → ∀ q, some k = some q → j ≤ q → nd j = true) (hd : ∀ b, nx = some b → b < k) : ∀ j, va_up N k true j = true → ∀ q, nx = some q → j ≤ q → nd j = true := by
  intro j hj q hq hle
  have := hd q hq
  rw [va_up_ne _ _ (show j ≠ k by omega)] at hj
  exact h1 j hj k rfl (by omega)
theorem k_nd_h2 {N nd : Nat → Bool} {k : Nat} (h2 : ∀ j, nd j = true → N j = true) : ∀ j, nd j = true → va_up N k true j = true := by
  intro j hj
  by_cases h : j = k
  · subst h; exact va_up_self _ _ _
  · rw [va_up_ne _ _ h]; exact h2 j hj
/-- nobody beside a day is on call on it -/
def k_rest (p : Nat → Nat) (d : Nat) : Bool := (decide (d = 0) || decide (p d ≠ p (d - 1))) && (decide (d = 364) || decide (p d ≠ p (d + 1)))
theorem k_rest_0 (p : Nat → Nat) : k_rest p 0 = decide (p 0 ≠ p (0 + 1)) := by simp [k_rest]
theorem k_rest_m (p : Nat → Nat) {e : Nat} (h : e + 1 < 364) : k_rest p (e + 1) = (decide (p (e + 1) ≠ p (e + 1 - 1)) && decide (p (e + 1) ≠ p (e + 1 + 1))) := by
  simp [k_rest, show ¬ e = 363 by omega]
theorem k_rest_h (p : Nat → Nat) : k_rest p 364 = decide (p 364 ≠ p (364 - 1)) := by simp [k_rest]
theorem k_nm1 {a : Nat} (h : a < 2 ^ 31) : ¬ nI a = -1 := by
  intro q
  have h1 := nI_toInt h
  rw [q] at h1
  have : (-1 : Int32).toInt = -1 := rfl
  omega
abbrev k_ex (p : Nat → Nat) (j k : Nat) : Nat → Nat := va_up (va_up p j (p k)) k (p j)
theorem k_ex_lt {p : Nat → Nat} {j k M N : Nat} (hp : ∀ i, i < N → p i < M) (hj : j < N) (hk : k < N) : ∀ i, i < N → k_ex p j k i < M := by
  intro i hi
  simp only [k_ex, va_up]
  split
  · exact hp j hj
  · split
    · exact hp k hk
    · exact hp i hi
theorem k_ex_back (p : Nat → Nat) (j k : Nat) : va_up (va_up (va_up (va_up p j (p k)) k (p j)) j (va_up (va_up p j (p k)) k (p j) k)) k (va_up (va_up p j (p k)) k (p j) j) = p := by
  funext i
  simp only [va_up]
  by_cases h1 : i = k
  · subst h1
    by_cases h2 : j = i
    · subst h2; simp
    · simp [h2]
  · by_cases h2 : i = j
    · subst h2; simp [h1]
    · simp [h1, h2]
/-- who answers, from day d on, i days at most -/
def k_al (p : Nat → Nat) (an : Nat) : Nat → Nat → Int32
  | 0, _ => -1
  | i + 1, d => if an.testBit (p d) = true then nI (p d) else k_al p an i (d + 1)
theorem k_and : ∀ an, an < 32 → ∀ q, q < 5 → ((nI an &&& (nI 1 <<< (nI q &&& 31))) = 0 ↔ an.testBit q = false) := by decide +kernel
/-- the latest one that is there, among the first n -/
def k_la (th : Nat → Bool) : Nat → Option Nat
  | 0 => none
  | n + 1 => if th n = true then some n else k_la th n
theorem k_sel_by {th : Nat → Bool} {pd : Nat → Nat} {r lf : Nat} {z : Int32} {Pm TG : Nat → Bool} (h : ∀ j, TG j = (Pm j || k_sel th pd (r + 1) lf z j)) (hl : 0 < lf) (ht : th r = true) (hz : ¬ nI (pd r) = z) : ∀ j, TG j = (va_up Pm r true j || k_sel th pd r (lf - 1) (nI (pd r)) j) := by
  intro j
  rw [h j, k_sel_y hl ht hz]
  by_cases hj : j = r
  · subst hj; simp [va_up]
  · rw [va_up_ne _ _ hj, decide_eq_false hj, Bool.false_or]
def k_Pm (th pm : Nat → Bool) (on : Nat → Nat) (r1 r2 r3 : Nat) : Nat → Bool := fun j => (if th j = true then false else pm j) || k_P th on 60 r1 r2 r3 j
def k_N0 (th nd : Nat → Bool) : Nat → Bool := fun j => if th j = true then false else nd j
def k_Nm (th nd P : Nat → Bool) (bs : Nat → Option Nat) : Nat → Bool := fun j => k_N0 th nd j || k_nd th P bs 60 j
theorem k_cl_next {bs : Nat → Option Nat} {j b : Nat} (hj : bs j = some b) (hb : b < j) : ∀ k, j ∈ k_cl bs k → b ∈ k_cl bs k := by
  intro k
  induction k using Nat.strongRecOn with
  | ind k ih =>
    intro h
    cases hk : bs k with
    | none =>
      rw [k_cl_none hk] at h
      rw [List.mem_singleton.mp h] at hj
      rw [hk] at hj; cases hj
    | some q =>
      by_cases hq : q < k
      · rw [k_cl_cons hk hq] at h ⊢
        rcases List.mem_cons.mp h with h1 | h1
        · rw [h1] at hj
          rw [hk] at hj; cases hj
          refine List.mem_cons_of_mem _ ?_
          rw [k_cl]; exact List.mem_cons_self
        · exact List.mem_cons_of_mem _ (ih q hq h1)
      · rw [k_cl, hk] at h
        simp only [dif_neg hq] at h
        rw [List.mem_singleton.mp h] at hj hb
        rw [hk] at hj; cases hj; omega
theorem k_nd_next {th P : Nat → Bool} {bs : Nat → Option Nat} {j b : Nat} (hj : bs j = some b) (hb : b < j) : ∀ i, k_nd th P bs i j = true → k_nd th P bs i b = true := by
  intro i
  induction i with
  | zero => intro h; exact h
  | succ i ih =>
    intro h
    simp only [k_nd, Bool.or_eq_true, Bool.and_eq_true, List.contains_iff_mem] at h ⊢
    rcases h with h | ⟨h1, h2⟩
    · exact Or.inl (ih h)
    · exact Or.inr ⟨h1, k_cl_next hj hb i h2⟩
theorem k_nd_y {th P : Nat → Bool} {bs : Nat → Option Nat} {i : Nat} (h1 : th i = true) (h2 : P i = true) (j : Nat) : k_nd th P bs (i + 1) j = (k_nd th P bs i j || (k_cl bs i).contains j) := by
  simp only [k_nd, h1, h2, Bool.true_and]
theorem k_nd_n {th P : Nat → Bool} {bs : Nat → Option Nat} {i : Nat} (h : (th i && P i) = false) (j : Nat) : k_nd th P bs (i + 1) j = k_nd th P bs i j := by
  simp only [k_nd, h, Bool.false_and, Bool.or_false]
theorem k_nd_cc {th nd P N : Nat → Bool} {bs : Nat → Option Nat} {i : Nat} (hN : ∀ j, N j = (k_N0 th nd j || k_nd th P bs i j)) (hd : ∀ j b, th j = true → bs j = some b → b < j) : ∀ j b, th j = true → N j = true → bs j = some b → N b = true := by
  intro j b h1 h2 h3
  rw [hN j, k_N0, if_pos h1, Bool.false_or] at h2
  rw [hN b, k_nd_next h3 (hd j b h1 h3) i h2, Bool.or_true]
theorem k_rs {th f F : Nat → Bool} {v : Nat → Bool} {i : Nat} (h : ∀ j, F j = if (decide (j < i) && th j) = true then v j else f j) (ht : th i = true) {x : Bool} (hx : v i = x) : ∀ j, va_up F i x j = if (decide (j < i + 1) && th j) = true then v j else f j := by
  intro j
  by_cases hj : j = i
  · subst hj; rw [va_up_self, ht, ← hx]; simp
  · rw [va_up_ne _ _ hj, h j, show decide (j < i + 1) = decide (j < i) from by congr 1; exact propext ⟨fun q => by omega, fun q => by omega⟩]
theorem k_rs_n {th f F : Nat → Bool} {v : Nat → Bool} {i : Nat} (h : ∀ j, F j = if (decide (j < i) && th j) = true then v j else f j) (ht : th i = false) : ∀ j, F j = if (decide (j < i + 1) && th j) = true then v j else f j := by
  intro j
  rw [h j]
  by_cases hj : j = i
  · subst hj; rw [ht]; simp
  · rw [show decide (j < i + 1) = decide (j < i) from by congr 1; exact propext ⟨fun q => by omega, fun q => by omega⟩]
theorem k_rs_0 {th f : Nat → Bool} {v : Nat → Bool} : ∀ j, f j = if (decide (j < 0) && th j) = true then v j else f j := by
  intro j; simp
theorem k_rs_e {th f F : Nat → Bool} {v : Nat → Bool} {i M : Nat} (h : ∀ j, F j = if (decide (j < i) && th j) = true then v j else f j) (hw : ∀ j, th j = true → j < M) (hM : M ≤ i) : F = fun j => if th j = true then v j else f j := by
  funext j
  rw [h j]
  by_cases ht : th j = true
  · rw [ht, show decide (j < i) = true from decide_eq_true (by have := hw j ht; omega)]; rfl
  · rw [if_neg ht, if_neg (by rw [Bool.and_eq_true]; exact fun q => ht q.2)]
/-- held by itself -/
def k_H0 (th nd : Nat → Bool) (on : Nat → Nat) (hd : Nat → Bool) (z : Int32) : Nat → Bool := fun j => if th j = true then (nd j || decide (z ≤ nI (on j))) else hd j
def k_Hd (th nd : Nat → Bool) (bs : Nat → Option Nat) (on : Nat → Nat) (hd : Nat → Bool) (z : Int32) : Nat → Bool := k_hl th bs 60 (k_H0 th nd on hd z)
theorem k_hl_y {th hd : Nat → Bool} {bs : Nat → Option Nat} {i b : Nat} (h1 : th i = true) (h2 : hd i = true) (h3 : bs i = some b) : k_hl th bs (i + 1) hd = k_hl th bs i (va_up hd b true) := by
  simp only [k_hl, h1, h2, h3, and_self, if_true]
theorem k_hl_z {th hd : Nat → Bool} {bs : Nat → Option Nat} {i : Nat} (h3 : bs i = none) : k_hl th bs (i + 1) hd = k_hl th bs i hd := by
  simp only [k_hl, h3]; split <;> rfl
theorem k_hl_n {th hd : Nat → Bool} {bs : Nat → Option Nat} {i : Nat} (h : ¬ (th i = true ∧ hd i = true)) : k_hl th bs (i + 1) hd = k_hl th bs i hd := by
  simp only [k_hl, if_neg h]
theorem k_thi {th th' hd : Nat → Bool} {i : Nat} (h : ∀ j, th' j = if j < i then (th j && hd j) else th j) (hb : th' i = true) : th i = true := by
  rw [h i, if_neg (Nat.lt_irrefl i)] at hb; exact hb
theorem k_th_off {th th' hd : Nat → Bool} {i : Nat} (h : ∀ j, th' j = if j < i then (th j && hd j) else th j) (hh : hd i = false) : ∀ j, va_up th' i false j = if j < i + 1 then (th j && hd j) else th j := by
  intro j
  by_cases hj : j = i
  · subst hj; rw [va_up_self, if_pos (by omega), hh, Bool.and_false]
  · rw [va_up_ne _ _ hj, h j]
    by_cases h2 : j < i
    · rw [if_pos h2, if_pos (by omega)]
    · rw [if_neg h2, if_neg (by omega)]
theorem k_th_on {th th' hd : Nat → Bool} {i : Nat} (h : ∀ j, th' j = if j < i then (th j && hd j) else th j) (hh : th i = false ∨ hd i = true) : ∀ j, th' j = if j < i + 1 then (th j && hd j) else th j := by
  intro j
  rw [h j]
  by_cases hj : j = i
  · subst hj; rw [if_neg (by omega), if_pos (by omega)]
    rcases hh with q | q
    · rw [q]; rfl
    · rw [q, Bool.and_true]
  · by_cases h2 : j < i
    · rw [if_pos h2, if_pos (by omega)]
    · rw [if_neg h2, if_neg (by omega)]
theorem k_th_e {th th' hd : Nat → Bool} {i M : Nat} (h : ∀ j, th' j = if j < i then (th j && hd j) else th j) (hw : ∀ j, th j = true → j < M) (hM : M ≤ i) : th' = fun j => th j && hd j := by
  funext j
  rw [h j]
  by_cases h2 : j < i
  · rw [if_pos h2]
  · rw [if_neg h2]
    cases hb : th j with
    | false => rfl
    | true => have := hw j hb; omega
theorem k_cb_y {p : Nat → Bool} {i : Nat} (h : p i = true) : k_cb p (i + 1) = k_cb p i + 1 := by simp only [k_cb, if_pos h]
theorem k_cb_n {p : Nat → Bool} {i : Nat} (h : p i = false) : k_cb p (i + 1) = k_cb p i := by simp only [k_cb, h]; rfl
theorem k_sm_y {p : Nat → Bool} {v : Nat → Nat} {i : Nat} (h : p i = true) : k_sm p v (i + 1) = k_sm p v i + v i := by simp only [k_sm, if_pos h]
theorem k_sm_n {p : Nat → Bool} {v : Nat → Nat} {i : Nat} (h : p i = false) : k_sm p v (i + 1) = k_sm p v i := by simp only [k_sm, h]; rfl
theorem k_lp_y {p : Nat → Bool} {on : Nat → Nat} {i : Nat} (h : p i = true) : k_lp p on (i + 1) = (if k_lp p on i < nI (on i) then nI (on i) else k_lp p on i) := by simp only [k_lp, if_pos h]
theorem k_lp_n {p : Nat → Bool} {on : Nat → Nat} {i : Nat} (h : p i = false) : k_lp p on (i + 1) = k_lp p on i := by simp only [k_lp, h]; rfl
theorem k_or_t {nd : Nat → Bool} {on : Nat → Nat} {z : Int32} {i : Nat} (h : nd i = true ∨ ¬ nI (on i) < z) : (fun j => nd j || decide (z ≤ nI (on j))) i = true := by
  show (nd i || decide (z ≤ nI (on i))) = true
  rcases h with h | h
  · rw [h]; rfl
  · rw [decide_eq_true (Int32.not_lt.mp h), Bool.or_true]
theorem k_or_f {nd : Nat → Bool} {on : Nat → Nat} {z : Int32} {i : Nat} (h : nd i = false) (h2 : nI (on i) < z) : (fun j => nd j || decide (z ≤ nI (on j))) i = false := by
  show (nd i || decide (z ≤ nI (on i))) = false
  rw [h, decide_eq_false (Int32.not_le.mpr h2)]; rfl
/-- the reference's 'in' -/
def k_in (a lo hi : Int32) : Bool := !(decide (a < lo)) && !(decide (hi < a))
theorem k_in_t {a lo hi : Int32} (h1 : ¬ a < lo) (h2 : ¬ hi < a) : k_in a lo hi = true := by simp [k_in, h1, h2]
theorem k_in_f {a lo hi : Int32} (h : a < lo ∨ hi < a) : k_in a lo hi = false := by
  rcases h with h | h <;> simp [k_in, h]
theorem k_in_n {a lo hi : Nat} (h1 : lo ≤ a) (h2 : a ≤ hi) (h3 : hi < 2 ^ 31) : k_in (nI a) (nI lo) (nI hi) = true := k_in_t (nI_nlt h1 (by omega)) (nI_nlt h2 (by omega))
theorem k_mI {M : Nat} (h : M < 2 ^ 30) : (nI M + (-1)).toInt = (M : Int) - 1 := by
  rcases M with _ | M
  · decide
  · rw [k_dec, nI_toInt (by omega)]; omega
theorem k_in_md {j M : Nat} (h : j < M) (hM : M < 2 ^ 30) : k_in (nI j) (nI 0) (nI M + (-1)) = true := by
  refine k_in_t (nI_nlt (Nat.zero_le _) (by omega)) ?_
  rw [Int32.lt_iff_toInt_lt, k_mI hM, nI_toInt (by omega)]
  omega
theorem k_in_md_ge {j M : Nat} (h : M ≤ j) (hM : M < 2 ^ 30) (hj : j < 2 ^ 30) : k_in (nI j) (nI 0) (nI M + (-1)) = false := by
  refine k_in_f (Or.inr ?_)
  rw [Int32.lt_iff_toInt_lt, k_mI hM, nI_toInt (by omega)]
  omega
theorem k_in_md_hi {x : Int32} {M N : Nat} (h : nI N ≤ x) (hN : N < 2 ^ 31) (hM : M ≤ N) (hM2 : M < 2 ^ 30) : k_in x (nI 0) (nI M + (-1)) = false := by
  refine k_in_f (Or.inr ?_)
  rw [Int32.le_iff_toInt_le, nI_toInt hN] at h
  rw [Int32.lt_iff_toInt_lt, k_mI hM2]
  omega
/-- promised, the reference's way: all of the first M marked anew -/
def k_PmM (M : Nat) (th pm : Nat → Bool) (on : Nat → Nat) (r1 r2 r3 : Nat) : Nat → Bool := fun j => (if decide (j < M) = true then false else pm j) || k_P th on M r1 r2 r3 j
def k_NmM (M : Nat) (nd P : Nat → Bool) (bs : Nat → Option Nat) : Nat → Bool := fun j => (if decide (j < M) = true then false else nd j) || k_nd (fun _ => true) P bs M j
theorem k_out {N2 TG : Nat → Bool} (h : ∀ j, TG j = (N2 j || ([] : List Nat).contains j)) : ∀ j, N2 j = TG j := fun j => by rw [h j]; simp
theorem k_inc0 (n : Nat) : n + 0 = n := rfl
theorem k_th_up {th th' hd : Nat → Bool} {i : Nat} {x : Bool} (h : ∀ j, th' j = if j < i then (th j && hd j) else th j) (hx : x = (th i && hd i)) : ∀ j, va_up th' i x j = if j < i + 1 then (th j && hd j) else th j := by
  intro j
  by_cases hj : j = i
  · subst hj; rw [va_up_self, if_pos (Nat.lt_succ_self _), hx]
  · rw [va_up_ne _ _ hj, h j]
    by_cases h2 : j < i
    · rw [if_pos h2, if_pos (by omega)]
    · rw [if_neg h2, if_neg (by omega)]
def k_L0 (M : Nat) (th nd : Nat → Bool) (on : Nat → Nat) (ls : Nat → Bool) (z : Int32) : Nat → Bool := fun j => if decide (j < M) = true then (th j && (!nd j && decide (nI (on j) < z))) else ls j
def k_LS (M : Nat) (th nd : Nat → Bool) (bs : Nat → Option Nat) (on : Nat → Nat) (ls : Nat → Bool) (z : Int32) : Nat → Bool := fun j => !(k_hl th bs M (fun q => !(k_L0 M th nd on ls z q)) j)
theorem k_nup {f : Nat → Bool} {b : Nat} : (fun j => !(va_up f b false j)) = va_up (fun j => !(f j)) b true := by
  funext j
  by_cases h : j = b
  · subst h; rw [va_up_self, va_up_self]; rfl
  · rw [va_up_ne _ _ h, va_up_ne _ _ h]
theorem k_lm {i M : Nat} (h : i < M) : (fun j => decide (j < M)) i = true := decide_eq_true h
theorem k_lmw {M : Nat} : ∀ j, (fun j => decide (j < M)) j = true → j < M := fun _ h => of_decide_eq_true h
theorem kb_nt {b : Bool} (h : (!b) = false) : b = true := by cases b <;> first | rfl | cases h
theorem kb_nf {b : Bool} (h : b = true) : ¬ ((!b) = true) := by subst h; decide
theorem k_shr : ∀ an, an < 32 → ∀ q, q < 5 → (((nI an >>> (nI q &&& 31)) &&& nI 1) = nI 1 ↔ an.testBit q = true) := by decide +kernel
theorem k_fk_hd {K : Nat → Nat → Int32} {f k : Nat} {bs : Nat → Option Nat} (h : ¬ K k f = -1) : k_fk K f (k_cl bs k) = K k f := by
  rw [k_cl, k_fk, if_neg h]
theorem k_fk_tl {K : Nat → Nat → Int32} {f k b : Nat} {bs : Nat → Option Nat} (h : K k f = -1) (hb : bs k = some b) (hd : b < k) : k_fk K f (k_cl bs k) = k_fk K f (k_cl bs b) := by
  rw [k_cl_cons hb hd, k_fk, if_pos h]
/-- what a new copy keeps -/
def k_KN (M : Nat) (p : Nat → Bool) (c K : Nat → Int32) (i : Nat) : Nat → Int32 := fun j => if 10 * M ≤ j ∧ j < 10 * M + i then (if p (j - 10 * M) = true then c (j - 10 * M) else -1) else K j
theorem k_KN_0 {M : Nat} {p : Nat → Bool} {c K : Nat → Int32} : K = k_KN M p c K 0 := by
  funext j
  rw [k_KN, if_neg (by omega)]
theorem k_KN_s {M : Nat} {p : Nat → Bool} {c K : Nat → Int32} {i : Nat} {v : Int32} (hv : v = if p i = true then c i else -1) : va_up (k_KN M p c K i) (10 * M + i) v = k_KN M p c K (i + 1) := by
  funext j
  by_cases h : j = 10 * M + i
  · subst h
    rw [va_up_self, k_KN, if_pos (show 10 * M ≤ 10 * M + i ∧ 10 * M + i < 10 * M + (i + 1) by omega), hv, show 10 * M + i - 10 * M = i by omega]
  · rw [va_up_ne _ _ h, k_KN, k_KN]
    by_cases h2 : 10 * M ≤ j ∧ j < 10 * M + i
    · rw [if_pos h2, if_pos (show 10 * M ≤ j ∧ j < 10 * M + (i + 1) by omega)]
    · rw [if_neg h2, if_neg (show ¬ (10 * M ≤ j ∧ j < 10 * M + (i + 1)) by omega)]
theorem k_up2 {α : Type} (f : Nat → α) (k : Nat) (a b : α) : va_up (va_up f k a) k b = va_up f k b := by
  funext j
  by_cases h : j = k
  · subst h; rw [va_up_self, va_up_self]
  · rw [va_up_ne _ _ h, va_up_ne _ _ h, va_up_ne _ _ h]
theorem k_sz_0 {s : Nat → Nat} {M : Nat} {p : Nat → Bool} (h : s M = 0) : s = va_up s M (k_cb p 0) := by
  have := k_up_id s M
  rw [h] at this; exact this.symm
theorem k_sz_s {s S : Nat → Nat} {M i v : Nat} {p : Nat → Bool} (h : S = va_up s M (k_cb p i)) (hv : k_cb p (i + 1) = k_cb p i + v) : va_up S M (S M + v) = va_up s M (k_cb p (i + 1)) := by
  rw [h, va_up_self, k_up2, hv]
