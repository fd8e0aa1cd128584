/-! NUMBERS, MASKS -/
theorem fa_lt (a b : Int32) : a < b ↔ a.toInt < b.toInt := Int32.lt_iff_toInt_lt
theorem fa_le (a b : Int32) : a ≤ b ↔ a.toInt ≤ b.toInt := Int32.le_iff_toInt_le
theorem fa_eq (a b : Int32) : a = b ↔ a.toInt = b.toInt := Int32.toInt_inj.symm
theorem fa_lit (n : Nat) : (OfNat.ofNat n : Int32) = nI n := rfl
theorem fa_and (a b : Nat) : nI a &&& nI b = nI (a &&& b) := by
  apply Int32.toBitVec_inj.1
  show BitVec.ofNat 32 a &&& BitVec.ofNat 32 b = BitVec.ofNat 32 (a &&& b)
  apply BitVec.eq_of_getLsbD_eq
  intro i hi
  simp [hi]
theorem fa_or (a b : Nat) : nI a ||| nI b = nI (a ||| b) := by
  apply Int32.toBitVec_inj.1
  show BitVec.ofNat 32 a ||| BitVec.ofNat 32 b = BitVec.ofNat 32 (a ||| b)
  apply BitVec.eq_of_getLsbD_eq
  intro i hi
  simp [hi]
theorem z_lt {a b : Nat} (ha : a < 2 ^ 31) (hb : b < 2 ^ 31) : nI a < nI b ↔ a < b := nI_ltI ha hb
theorem z_le {a b : Nat} (ha : a < 2 ^ 31) (hb : b < 2 ^ 31) : nI a ≤ nI b ↔ a ≤ b := nI_leI ha hb
theorem z_eq {a b : Nat} (ha : a < 2 ^ 31) (hb : b < 2 ^ 31) : nI a = nI b ↔ a = b := nI_eq ha hb
theorem z_neg {a : Nat} (ha : a < 2 ^ 31) : ¬ nI a < 0 := nI_pos ha
theorem z_shl : ∀ k, k < 31 → (1 : Int32) <<< (nI k &&& 31) = nI (2 ^ k) := by decide +kernel
theorem z_bit : ∀ m, m < 256 → ∀ k, k < 8 → decide ((nI m >>> (nI k &&& 31)) &&& 1 = 1) = m.testBit k := by decide +kernel
theorem z_bit' {m k : Nat} (hm : m < 256) (hk : k < 8) : (nI m >>> (nI k &&& 31)) &&& 1 = 1 ↔ m.testBit k = true := by
  rw [← z_bit m hm k hk, decide_eq_true_eq]
/-- one number taken out of a set -/
def z_cl (m k : Nat) : Nat := if m.testBit k then m - 2 ^ k else m
theorem z_clr : ∀ m, m < 256 → ∀ k, k < 8 → nI m &&& (nI (2 ^ k) ^^^ (-1)) = nI (z_cl m k) := by decide +kernel
theorem z_cl_tb : ∀ m, m < 256 → ∀ k, k < 8 → ∀ j, j < 8 → (z_cl m k).testBit j = (m.testBit j && decide (j ≠ k)) := by decide +kernel
theorem z_cl_lt : ∀ m, m < 256 → ∀ k, k < 8 → z_cl m k < 256 := by decide +kernel
theorem z_ext : ∀ {a b : Nat}, a < 256 → b < 256 → (∀ j, j < 8 → a.testBit j = b.testBit j) → a = b := by
  intro a b ha hb h
  apply Nat.eq_of_testBit_eq
  intro i
  by_cases hi : i < 8
  · exact h i hi
  · rw [Nat.testBit_lt_two_pow (Nat.lt_of_lt_of_le ha (show 2 ^ 8 ≤ 2 ^ i from Nat.pow_le_pow_right (by decide) (by omega))), Nat.testBit_lt_two_pow (Nat.lt_of_lt_of_le hb (show 2 ^ 8 ≤ 2 ^ i from Nat.pow_le_pow_right (by decide) (by omega)))]
/-- the set of those below k with p -/
def z_mk : Nat → (Nat → Bool) → Nat
  | 0, _ => 0
  | k + 1, p => (if p k then 2 ^ k else 0) + z_mk k p
theorem z_mk_s (k : Nat) (p : Nat → Bool) : z_mk (k + 1) p = (if p k then 2 ^ k else 0) + z_mk k p := rfl
theorem z_mk_lt : ∀ (k : Nat) (p : Nat → Bool), z_mk k p < 2 ^ k
  | 0, _ => Nat.one_pos
  | k + 1, p => by
    have h := z_mk_lt k p
    rw [z_mk_s]
    rw [Nat.pow_succ]
    split <;> omega
theorem z_mk_tb : ∀ (k : Nat) (p : Nat → Bool) (j : Nat), (z_mk k p).testBit j = (decide (j < k) && p j)
  | 0, p, j => by simp [z_mk]
  | k + 1, p, j => by
    have h := z_mk_lt k p
    have ih := z_mk_tb k p j
    unfold z_mk
    rcases Nat.lt_trichotomy j k with hj | hj | hj
    · have e1 : decide (j < k + 1) = true := decide_eq_true (by omega)
      have e2 : decide (j < k) = true := decide_eq_true hj
      rw [e1]; rw [e2] at ih
      split
      · rw [Nat.testBit_two_pow_add_gt hj, ih]
      · rw [Nat.zero_add, ih]
    · subst hj
      have e1 : decide (j < j + 1) = true := decide_eq_true (by omega)
      rw [e1, Bool.true_and]
      cases hp : p j with
      | true => rw [if_pos rfl, Nat.testBit_two_pow_add_eq, Nat.testBit_lt_two_pow h]; rfl
      | false => simp [Nat.testBit_lt_two_pow h]
    · have e1 : decide (j < k + 1) = false := decide_eq_false (by omega)
      rw [e1, Bool.false_and]
      apply Nat.testBit_lt_two_pow
      have h2 : 2 ^ (k + 1) ≤ 2 ^ j := Nat.pow_le_pow_right (by decide) hj
      rw [Nat.pow_succ] at h2
      split <;> omega
theorem z_mk_lt8 {k : Nat} (hk : k ≤ 8) (p : Nat → Bool) : z_mk k p < 256 := Nat.lt_of_lt_of_le (z_mk_lt k p) (Nat.pow_le_pow_right (by decide) hk : 2 ^ k ≤ 2 ^ 8)
/-- one more number comes to a set -/
theorem z_mk_or {k : Nat} {p : Nat → Bool} (h : p k = true) : nI (z_mk k p) ||| nI (2 ^ k) = nI (z_mk (k + 1) p) := by
  rw [fa_or]
  congr 1
  have h1 := z_mk_lt k p
  rw [z_mk_s, if_pos h]
  have := Nat.two_pow_add_eq_or_of_lt h1 1
  rw [Nat.mul_one] at this
  rw [this, Nat.or_comm]
theorem z_mk_no {k : Nat} {p : Nat → Bool} (h : ¬ p k = true) : nI (z_mk k p) = nI (z_mk (k + 1) p) := by
  rw [z_mk_s, if_neg h, Nat.zero_add]
theorem z_mk_congr : ∀ (k : Nat) {p q : Nat → Bool}, (∀ j, j < k → p j = q j) → z_mk k p = z_mk k q
  | 0, _, _, _ => rfl
  | k + 1, p, q, h => by
    unfold z_mk
    rw [h k (by omega), z_mk_congr k (fun j hj => h j (by omega))]
/-- a longer range adds nothing where p is empty -/
theorem z_mk_up {k n : Nat} (hk : k ≤ 8) (hn : n ≤ 8) {p q : Nat → Bool} (h : ∀ j, j < 8 → (decide (j < k) && p j) = (decide (j < n) && q j)) : z_mk k p = z_mk n q := by
  apply z_ext (z_mk_lt8 hk p) (z_mk_lt8 hn q)
  intro j hj
  rw [z_mk_tb, z_mk_tb, h j hj]
def z_any : Nat → (Nat → Bool) → Bool
  | 0, _ => false
  | k + 1, p => z_any k p || p k
theorem z_any_iff : ∀ (k : Nat) (p : Nat → Bool), z_any k p = true ↔ ∃ j, j < k ∧ p j = true
  | 0, p => by simp [z_any]
  | k + 1, p => by
    unfold z_any
    rw [Bool.or_eq_true, z_any_iff k p]
    constructor
    · rintro (⟨j, h1, h2⟩ | h)
      · exact ⟨j, by omega, h2⟩
      · exact ⟨k, by omega, h⟩
    · rintro ⟨j, h1, h2⟩
      by_cases e : j = k
      · subst e; exact Or.inr h2
      · exact Or.inl ⟨j, by omega, h2⟩
/-- how many below k have p -/
def z_cn : Nat → (Nat → Bool) → Nat
  | 0, _ => 0
  | k + 1, p => z_cn k p + (if p k then 1 else 0)
theorem z_cn_s (k : Nat) (p : Nat → Bool) : z_cn (k + 1) p = z_cn k p + (if p k then 1 else 0) := rfl
theorem z_cn_congr : ∀ (k : Nat) {p q : Nat → Bool}, (∀ j, j < k → p j = q j) → z_cn k p = z_cn k q
  | 0, _, _, _ => rfl
  | k + 1, p, q, h => by
    unfold z_cn
    rw [h k (by omega), z_cn_congr k (fun j hj => h j (by omega))]
theorem z_cn_le : ∀ (k : Nat) (p : Nat → Bool), z_cn k p ≤ k
  | 0, _ => Nat.le_refl _
  | k + 1, p => by
    have := z_cn_le k p
    unfold z_cn
    split <;> omega
/-- how many numbers a set has -/
def z_pc (m : Nat) : Nat := z_cn 8 m.testBit
theorem z_pc_mk {k : Nat} (hk : k ≤ 8) (p : Nat → Bool) : z_pc (z_mk k p) = z_cn 8 (fun j => decide (j < k) && p j) := z_cn_congr 8 (fun j _ => z_mk_tb k p j)
theorem z_cn_up {k : Nat} {p : Nat → Bool} : ∀ (n : Nat), k ≤ n → z_cn n (fun j => decide (j < k) && p j) = z_cn k p
  | 0, h => by
    have : k = 0 := by omega
    subst this; rfl
  | n + 1, h => by
    by_cases e : k = n + 1
    · subst e
      exact z_cn_congr _ (fun j hj => by simp [hj])
    · have ih := z_cn_up (k := k) (p := p) n (by omega)
      rw [z_cn_s, ih]
      have : decide (n < k) = false := decide_eq_false (by omega)
      simp [this]
theorem z_pc_le (m : Nat) : z_pc m ≤ 8 := z_cn_le 8 _
/-- the greatest of f below k -/
def z_mx : Nat → (Nat → Nat) → Nat
  | 0, _ => 0
  | k + 1, f => max (z_mx k f) (f k)
theorem z_mx_congr : ∀ (k : Nat) {f g : Nat → Nat}, (∀ j, j < k → f j = g j) → z_mx k f = z_mx k g
  | 0, _, _, _ => rfl
  | k + 1, f, g, h => by
    unfold z_mx
    rw [h k (by omega), z_mx_congr k (fun j hj => h j (by omega))]
theorem z_mx_le : ∀ (k B : Nat) (f : Nat → Nat), (∀ j, j < k → f j ≤ B) → z_mx k f ≤ B
  | 0, B, f, _ => Nat.zero_le _
  | k + 1, B, f, h => by
    unfold z_mx
    exact Nat.max_le.mpr ⟨z_mx_le k B f (fun j hj => h j (by omega)), h k (by omega)⟩
def z_sm : Nat → (Nat → Nat) → Nat
  | 0, _ => 0
  | k + 1, f => z_sm k f + f k
theorem z_sm_congr : ∀ (k : Nat) {f g : Nat → Nat}, (∀ j, j < k → f j = g j) → z_sm k f = z_sm k g
  | 0, _, _, _ => rfl
  | k + 1, f, g, h => by
    unfold z_sm
    rw [h k (by omega), z_sm_congr k (fun j hj => h j (by omega))]
theorem z_sm_le : ∀ (k B : Nat) (f : Nat → Nat), (∀ j, j < k → f j ≤ B) → z_sm k f ≤ k * B
  | 0, B, f, _ => by simp [z_sm]
  | k + 1, B, f, h => by
    have := z_sm_le k B f (fun j hj => h j (by omega))
    have h2 := h k (by omega)
    unfold z_sm
    rw [Nat.succ_mul]
    omega
/-- an int that isn't below 0 -/
theorem z_of {v : Int32} (h : 0 ≤ v.toInt) : ∃ j : Nat, v = nI j ∧ (j : Int) = v.toInt ∧ j < 2 ^ 31 ∧ v.toNatClampNeg = j := by
  obtain ⟨j, h1, h2⟩ := nI_of (x := v) (fun q => by have := (fa_lt v 0).mp q; have e : (0 : Int32).toInt = 0 := rfl; omega)
  subst h2
  exact ⟨j, rfl, (nI_toInt h1).symm, h1, nI_clamp h1⟩
theorem z_in {n N : Nat} (h : n < N) (hN : N ≤ 1000) : vp_in (nI n) N := vp_in_nI h (by omega)
theorem z_cl' {n : Nat} (h : n < 2 ^ 31) : (nI n).toNatClampNeg = n := nI_clamp h
