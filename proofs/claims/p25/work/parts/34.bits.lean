/-! MASKS OF FOURTEEN BITS (the rows to b_sshr and nx_and are pasted from the kit's BITS) -/
def bt (x : Int32) (i : Nat) : Bool := x.toBitVec.getLsbD i
theorem b_ext {x y : Int32} (h : ∀ i, i < 32 → bt x i = bt y i) : x = y := Int32.toBitVec_inj.mp (BitVec.eq_of_getLsbD_eq (fun i hi => h i hi))
theorem b_or (x y : Int32) (i : Nat) : bt (x ||| y) i = (bt x i || bt y i) := by unfold bt; rw [Int32.toBitVec_or, BitVec.getLsbD_or]
theorem b_and (x y : Int32) (i : Nat) : bt (x &&& y) i = (bt x i && bt y i) := by unfold bt; rw [Int32.toBitVec_and, BitVec.getLsbD_and]
theorem b_xor (x y : Int32) (i : Nat) : bt (x ^^^ y) i = (bt x i ^^ bt y i) := by unfold bt; rw [Int32.toBitVec_xor, BitVec.getLsbD_xor]
theorem b_big {x : Int32} {i : Nat} (h : 32 ≤ i) : bt x i = false := BitVec.getLsbD_of_ge _ _ h
theorem b_m1 : ∀ i, i < 32 → bt (-1) i = true := by decide +kernel
theorem b_0 (i : Nat) : bt 0 i = false := BitVec.getLsbD_zero
theorem s_l : ∀ n, n < 32 → ((nI n &&& 31).toBitVec.smod 32).toNat = n := by decide +kernel
theorem b_shl (n : Nat) (hn : n < 32) (x : Int32) {i : Nat} (hi : i < 32) : bt (x <<< (nI n &&& 31)) i = (decide (n ≤ i) && bt x (i - n)) := by
  unfold bt
  rw [Int32.toBitVec_shiftLeft]
  show (x.toBitVec <<< ((nI n &&& 31).toBitVec.smod 32).toNat).getLsbD i = _
  rw [s_l n hn, BitVec.getLsbD_shiftLeft]
  rcases Nat.lt_or_ge i n with h | h
  · simp [h, Nat.not_le.mpr h]
  · simp [hi, h, Nat.not_lt.mpr h]
theorem b_sshr (n : Nat) (hn : n < 32) (x : Int32) {i : Nat} (hi : i < 32) : bt (x >>> (nI n &&& 31)) i = if n + i < 32 then bt x (n + i) else bt x 31 := by
  unfold bt
  rw [Int32.toBitVec_shiftRight]
  show (x.toBitVec.sshiftRight ((nI n &&& 31).toBitVec.smod 32).toNat).getLsbD i = _
  rw [s_l n hn, BitVec.getLsbD_sshiftRight, BitVec.msb_eq_getLsbD_last]
  simp [hi]
theorem nx_and (a b : Nat) : nI a &&& nI b = nI (a &&& b) := by
  apply Int32.toBitVec_inj.1
  show BitVec.ofNat 32 a &&& BitVec.ofNat 32 b = BitVec.ofNat 32 (a &&& b)
  apply BitVec.eq_of_getLsbD_eq
  intro i hi
  simp [hi]
/-- the number whose lowest n bits are F -/
def kbn : Nat → (Nat → Bool) → Nat
  | 0, _ => 0
  | n + 1, F => (if F 0 = true then 1 else 0) + 2 * kbn n (fun j => F (j + 1))
theorem kbn_tb : ∀ n F i, (kbn n F).testBit i = (decide (i < n) && F i) := by
  intro n
  induction n with
  | zero => intro F i; simp [kbn]
  | succ n ih =>
    intro F i
    cases i with
    | zero =>
      rw [Nat.testBit_zero, kbn]
      cases F 0 with
      | true => simp
      | false => simp
    | succ i =>
      rw [Nat.testBit_succ, kbn, show ((if F 0 = true then 1 else 0) + 2 * kbn n (fun j => F (j + 1))) / 2 = kbn n (fun j => F (j + 1)) from by split <;> omega, ih]
      congr 1
      exact decide_eq_decide.mpr ⟨fun h => by omega, fun h => by omega⟩
theorem kbn_lt : ∀ n F, kbn n F < 2 ^ n := by
  intro n
  induction n with
  | zero => intro F; simp [kbn]
  | succ n ih =>
    intro F
    have := ih (fun j => F (j + 1))
    rw [kbn, Nat.pow_succ]
    split <;> omega
theorem kbn_low : ∀ n F, kbn n F ≠ 0 → ∃ k, k < n ∧ F k = true ∧ kbn n F &&& (kbn n F - 1) = kbn n (va_up F k false) := by
  intro n
  induction n with
  | zero => intro F h; exact absurd rfl h
  | succ n ih =>
    intro F h
    cases h0 : F 0 with
    | true =>
      refine ⟨0, by omega, h0, ?_⟩
      have e : (fun j => va_up F 0 false (j + 1)) = (fun j => F (j + 1)) := funext fun j => va_up_ne _ _ (by omega)
      simp only [kbn, e, h0, va_up_self, if_true]
      generalize kbn n (fun j => F (j + 1)) = u
      apply Nat.eq_of_testBit_eq
      intro i
      rw [Nat.testBit_and]
      cases i with
      | zero => simp only [Nat.testBit_zero]; rw [show (1 + 2 * u - 1) % 2 = 0 by omega]; simp
      | succ i => simp only [Nat.testBit_succ]; rw [show (1 + 2 * u) / 2 = u by omega, show (1 + 2 * u - 1) / 2 = u by omega, show ((if false = true then 1 else 0) + 2 * u) / 2 = u by simp]; exact Bool.and_self _
    | false =>
      have hu : kbn n (fun j => F (j + 1)) ≠ 0 := fun q => h (by rw [kbn, h0, q]; rfl)
      obtain ⟨k, hk, h1, h2⟩ := ih _ hu
      refine ⟨k + 1, by omega, h1, ?_⟩
      have e : (fun j => va_up F (k + 1) false (j + 1)) = va_up (fun j => F (j + 1)) k false := funext fun j => by
        by_cases hj : j = k
        · subst hj; rw [va_up_self, va_up_self]
        · rw [va_up_ne _ _ hj, va_up_ne _ _ (by omega)]
      simp only [kbn, e, h0, va_up_ne F false (show 0 ≠ k + 1 by omega)]
      rw [← h2]
      generalize kbn n (fun j => F (j + 1)) = u at hu
      apply Nat.eq_of_testBit_eq
      intro i
      rw [Nat.testBit_and]
      cases i with
      | zero => simp only [Nat.testBit_zero]; simp
      | succ i =>
        simp only [Nat.testBit_succ]
        rw [show ((if false = true then 1 else 0) + 2 * u) / 2 = u by simp, show ((if false = true then 1 else 0) + 2 * u - 1) / 2 = u - 1 by simp; omega, show ((if false = true then 1 else 0) + 2 * (u &&& (u - 1))) / 2 = u &&& (u - 1) by simp, Nat.testBit_and]
/-- fourteen bits as an int -/
def kB (F : Nat → Bool) : Int32 := nI (kbn 14 F)
theorem bt_nI (v : Nat) {i : Nat} (hi : i < 32) : bt (nI v) i = v.testBit i := by
  show (BitVec.ofNat 32 v).getLsbD i = _
  rw [BitVec.getLsbD_ofNat, decide_eq_true hi, Bool.true_and]
theorem bt_kB (F : Nat → Bool) {i : Nat} (hi : i < 32) : bt (kB F) i = (decide (i < 14) && F i) := by rw [kB, bt_nI _ hi, kbn_tb]
theorem kB_bits {x : Int32} {F : Nat → Bool} (h : ∀ i, i < 32 → bt x i = (decide (i < 14) && F i)) : x = kB F := b_ext fun i hi => (h i hi).trans (bt_kB F hi).symm
theorem kB_ext {F G : Nat → Bool} (h : ∀ i, i < 14 → F i = G i) : kB F = kB G := kB_bits fun i hi => by
  rw [bt_kB _ hi]
  by_cases h1 : i < 14
  · rw [h i h1]
  · rw [decide_eq_false h1, Bool.false_and, Bool.false_and]
theorem kB_or (F G : Nat → Bool) : kB F ||| kB G = kB (fun j => F j || G j) := kB_bits fun i hi => by
  rw [b_or, bt_kB _ hi, bt_kB _ hi]; cases decide (i < 14) <;> simp
theorem kB_and (F G : Nat → Bool) : kB F &&& kB G = kB (fun j => F j && G j) := kB_bits fun i hi => by
  rw [b_and, bt_kB _ hi, bt_kB _ hi]; cases decide (i < 14) <;> simp
theorem kB_andn (F G : Nat → Bool) : kB F &&& (kB G ^^^ (-1)) = kB (fun j => F j && !G j) := kB_bits fun i hi => by
  rw [b_and, b_xor, b_m1 i hi, bt_kB _ hi, bt_kB _ hi]; cases decide (i < 14) <;> simp
theorem bt_1 : ∀ i, i < 32 → bt (nI 1) i = decide (i = 0) := by decide +kernel
theorem bt_pw {k i : Nat} (hk : k < 32) (hi : i < 32) : bt (nI 1 <<< (nI k &&& 31)) i = decide (i = k) := by
  rw [b_shl k hk _ hi]
  by_cases h : k ≤ i
  · rw [decide_eq_true h, Bool.true_and, bt_1 _ (by omega)]
    exact decide_eq_decide.mpr ⟨fun q => by omega, fun q => by omega⟩
  · rw [decide_eq_false h, Bool.false_and, decide_eq_false (by omega)]
theorem kB_pw {k : Nat} (hk : k < 14) : nI 1 <<< (nI k &&& 31) = kB (fun j => decide (j = k)) := kB_bits fun i hi => by
  rw [bt_pw (by omega) hi]
  by_cases h : i < 14
  · rw [decide_eq_true h, Bool.true_and]
  · rw [decide_eq_false h, Bool.false_and, decide_eq_false (by omega)]
theorem kB_set (F : Nat → Bool) {k : Nat} (hk : k < 14) : kB F ||| (nI 1 <<< (nI k &&& 31)) = kB (va_up F k true) := by
  rw [kB_pw hk, kB_or]
  refine kB_ext fun i _ => ?_
  by_cases h : i = k
  · subst h; rw [va_up_self, decide_eq_true rfl, Bool.or_true]
  · rw [va_up_ne _ _ h, decide_eq_false h, Bool.or_false]
theorem kB_clr (F : Nat → Bool) {k : Nat} (hk : k < 14) : kB F &&& ((nI 1 <<< (nI k &&& 31)) ^^^ (-1)) = kB (va_up F k false) := by
  rw [kB_pw hk, kB_andn]
  refine kB_ext fun i _ => ?_
  by_cases h : i = k
  · subst h; rw [va_up_self, decide_eq_true rfl]; simp
  · rw [va_up_ne _ _ h, decide_eq_false h]; simp
theorem bt_kb (b : Bool) {i : Nat} (hi : i < 32) : bt (kb b) i = (decide (i = 0) && b) := by
  cases b with
  | true => show bt (nI 1) i = _; rw [bt_1 i hi, Bool.and_true]
  | false => rw [kb, b_0, Bool.and_false]
theorem bt_shr (F : Nat → Bool) {k i : Nat} (hk : k < 14) (hi : i < 32) : bt (kB F >>> (nI k &&& 31)) i = (decide (k + i < 14) && F (k + i)) := by
  rw [b_sshr k (by omega) _ hi]
  by_cases h : k + i < 32
  · rw [if_pos h, bt_kB _ h]
  · rw [if_neg h, bt_kB _ (by decide), decide_eq_false (show ¬ k + i < 14 by omega)]; rfl
theorem kB_bit (F : Nat → Bool) {k : Nat} (hk : k < 14) : (kB F >>> (nI k &&& 31)) &&& nI 1 = kb (F k) := b_ext fun i hi => by
  rw [b_and, bt_shr _ hk hi, bt_1 i hi, bt_kb _ hi]
  by_cases h : i = 0
  · subst h; rw [decide_eq_true (show k + 0 < 14 by omega)]; simp
  · rw [decide_eq_false h]; simp
theorem kB_bit2 (F G : Nat → Bool) {k : Nat} (hk : k < 14) : ((kB F >>> (nI k &&& 31)) &&& (kB G >>> (nI k &&& 31))) &&& nI 1 = kb (F k && G k) := b_ext fun i hi => by
  rw [b_and, b_and, bt_shr _ hk hi, bt_shr _ hk hi, bt_1 i hi, bt_kb _ hi]
  by_cases h : i = 0
  · subst h; rw [decide_eq_true (show k + 0 < 14 by omega)]; simp
  · rw [decide_eq_false h]; simp
theorem kB_0 : kB (fun _ => false) = nI 0 := by decide +kernel
theorem kB_eq0 {F : Nat → Bool} (h : kB F = nI 0) : ∀ i, i < 14 → F i = false := fun i hi => by
  have e := bt_kB F (show i < 32 by omega)
  rw [h, show nI 0 = 0 from rfl, b_0, decide_eq_true hi, Bool.true_and] at e
  exact e.symm
theorem kB_n0 {F : Nat → Bool} (h : ¬ kB F = nI 0) : ∃ i, i < 14 ∧ F i = true := by
  rcases Classical.em (∃ i, i < 14 ∧ F i = true) with q | q
  · exact q
  · refine absurd ?_ h
    rw [← kB_0]
    exact kB_ext fun i hi => by
      cases h2 : F i with
      | false => rfl
      | true => exact absurd ⟨i, hi, h2⟩ q
theorem kB_or0 (F : Nat → Bool) : kB F ||| nI 0 = kB F := by
  rw [← kB_0, kB_or]
  exact kB_ext fun i _ => Bool.or_false _
theorem kB_m1 (F : Nat → Bool) : kB F &&& (-1) = kB F := kB_bits fun i hi => by rw [b_and, bt_kB _ hi, b_m1 i hi, Bool.and_true]
theorem kB_low {F : Nat → Bool} (h : ¬ kB F = nI 0) : ∃ k, k < 14 ∧ F k = true ∧ kB F &&& (kB F - nI 1) = kB (va_up F k false) := by
  have h0 : kbn 14 F ≠ 0 := fun q => h (by rw [kB, q])
  obtain ⟨k, h1, h2, h3⟩ := kbn_low 14 F h0
  refine ⟨k, h1, h2, ?_⟩
  show nI (kbn 14 F) &&& (nI (kbn 14 F) - nI 1) = nI (kbn 14 (va_up F k false))
  rw [pk_sub (by omega), nx_and, h3]
theorem k_cb_off {p : Nat → Bool} {k : Nat} (hp : p k = true) : ∀ n, k < n → k_cb (va_up p k false) n + 1 = k_cb p n := by
  have h0 : ∀ n, n ≤ k → k_cb (va_up p k false) n = k_cb p n := by
    intro n
    induction n with
    | zero => intro _; rfl
    | succ n ih => intro h; simp only [k_cb, va_up_ne p false (show n ≠ k by omega), ih (by omega)]
  intro n
  induction n with
  | zero => intro h; omega
  | succ n ih =>
    intro h
    by_cases hn : n = k
    · subst hn
      rw [k_cb_n (va_up_self _ _ _), k_cb_y hp, h0 n (Nat.le_refl _)]
    · simp only [k_cb, va_up_ne p false hn]
      have := ih (by omega)
      split <;> omega
theorem k_cb_0 {p : Nat → Bool} : ∀ n, (∀ i, i < n → p i = false) → k_cb p n = 0 := by
  intro n
  induction n with
  | zero => intro _; rfl
  | succ n ih => intro h; rw [k_cb_n (h n (by omega)), ih (fun i hi => h i (by omega))]
