/-! COPIES, as numbers: from which place each gets something; moves made, spares, what they are -/
abbrev xGM : Type := (Nat → Nat) × Nat × Nat × (Nat → Nat)
def g_op (n : Nat) (g : Nat → Nat) : Nat := z_mk n (fun p => decide (g p ≠ p))
def g_wn (n : Nat) (g : Nat → Nat) (p : Nat) : Bool := z_any n (fun q => decide (g q ≠ q) && decide (g q = p))
def g_fr (n : Nat) (g : Nat → Nat) : Nat := z_mk n (fun p => decide (g p ≠ p) && !(g_wn n g p))
def g_fi (G : xGM) (p : Nat) : xGM := (fun q => if q = p then p else G.1 q, G.2.1 + 1, G.2.2.1, fun j => if j = G.2.1 then 10 * p + G.1 p else G.2.2.2 j)
def g_sa (n : Nat) (G : xGM) (p : Nat) : xGM := (fun q => if G.1 q = p then n else G.1 q, G.2.1 + 1, G.2.2.1 + 1, fun j => if j = G.2.1 then 10 * n + p else G.2.2.2 j)
def g_st (n : Nat) (G : xGM) : xGM := if g_fr n G.1 = 0 then g_sa n G (z_tz (g_op n G.1)) else g_fi G (z_tz (g_fr n G.1))
def g_run (n : Nat) : Nat → xGM → xGM
  | 0, G => G
  | f + 1, G => if g_op n G.1 = 0 then G else g_run n f (g_st n G)
def g_mu (n : Nat) (g : Nat → Nat) : Nat := 2 * z_cn n (fun p => decide (g p ≠ p)) + (if g_fr n g = 0 then 1 else 0)
def gIn (n : Nat) (g : Nat → Nat) : Prop := ∀ p, p < n → g p ≤ n
theorem g_run_0 {n f : Nat} {G : xGM} (h : g_op n G.1 = 0) : g_run n f G = G := by
  cases f with
  | zero => rfl
  | succ f => exact if_pos h
theorem g_run_s {n f : Nat} {G : xGM} (h : g_op n G.1 ≠ 0) : g_run n (f + 1) G = g_run n f (g_st n G) := if_neg h
theorem z_mk_e0 {n : Nat} {p : Nat → Bool} (h : ∀ j, j < n → p j = false) : z_mk n p = 0 := (z_mk_congr n (q := fun _ => false) h).trans (z_mk_0 n)
theorem z_mk_ne {n : Nat} {p : Nat → Bool} {j : Nat} (hj : j < n) (h : p j = true) : z_mk n p ≠ 0 := fun q => by
  have := z_mk_tb n p j
  rw [q, Nat.zero_testBit, decide_eq_true hj, h] at this
  cases this
theorem g_op_cn {n : Nat} {g : Nat → Nat} (h : g_op n g ≠ 0) : 0 < z_cn n (fun p => decide (g p ≠ p)) := by
  apply Classical.byContradiction
  intro hn
  apply h
  apply z_mk_e0
  intro j hj
  cases hb : decide (g j ≠ j) with
  | false => rfl
  | true =>
    exfalso
    have hle : z_cn n (fun q => decide (q = j)) ≤ z_cn n (fun p => decide (g p ≠ p)) := z_cn_mono n (fun q _ hq => by
      have := of_decide_eq_true hq
      subst this
      exact hb)
    have : ∀ k, j < k → 0 < z_cn k (fun q => decide (q = j)) := by
      intro k
      induction k with
      | zero => intro q; omega
      | succ k ih =>
        intro q
        rw [z_cn_s]
        by_cases e : k = j
        · rw [decide_eq_true e, if_pos rfl]; omega
        · have := ih (by omega); omega
    have := this n hj
    omega
theorem z_cn_del {P : Nat → Bool} {p : Nat} (hp : P p = true) : ∀ n, p < n → z_cn n (fun q => decide (q ≠ p) && P q) + 1 = z_cn n P
  | 0, h => by omega
  | n + 1, h => by
    rw [z_cn_s, z_cn_s]
    by_cases e : p = n
    · subst e
      rw [decide_eq_false (show ¬ p ≠ p by omega), Bool.false_and, if_neg Bool.false_ne_true, hp, if_pos rfl, z_cn_congr p (q := P) (fun j hj => by rw [decide_eq_true (show j ≠ p by omega), Bool.true_and])]
    · have ih := z_cn_del hp n (by omega)
      rw [decide_eq_true (show n ≠ p by omega), Bool.true_and]
      omega
theorem z_tz_b1 : ∀ n, n < 9 → ∀ m, m < 256 → m < 2 ^ n → m ≠ 0 → z_tzf m n 0 = z_tz m ∧ z_tz m < n := by decide +kernel
theorem z_tz_b2 : ∀ m, m < 256 → m ≠ 0 → m.testBit (z_tz m) = true := by decide +kernel
theorem z_tz_b3 : ∀ n, n < 9 → z_tzf 0 n 0 = n := by decide +kernel
theorem z_tz_b {n : Nat} (hn : n < 9) {m : Nat} (hm : m < 256) (h2 : m < 2 ^ n) : (m ≠ 0 → z_tzf m n 0 = z_tz m ∧ z_tz m < n ∧ m.testBit (z_tz m) = true) ∧ (m = 0 → z_tzf m n 0 = n) := ⟨fun h => ⟨(z_tz_b1 n hn m hm h2 h).1, (z_tz_b1 n hn m hm h2 h).2, z_tz_b2 m hm h⟩, fun h => by rw [h]; exact z_tz_b3 n hn⟩
theorem g_op_lt {n : Nat} (hn : n ≤ 8) (g : Nat → Nat) : g_op n g < 256 := z_mk_lt8 hn _
theorem g_fr_lt {n : Nat} (hn : n ≤ 8) (g : Nat → Nat) : g_fr n g < 256 := z_mk_lt8 hn _
theorem g_op_tb (n : Nat) (g : Nat → Nat) (j : Nat) : (g_op n g).testBit j = (decide (j < n) && decide (g j ≠ j)) := z_mk_tb _ _ _
theorem g_fr_tb (n : Nat) (g : Nat → Nat) (j : Nat) : (g_fr n g).testBit j = (decide (j < n) && (decide (g j ≠ j) && !(g_wn n g j))) := z_mk_tb _ _ _
theorem g_op_p {n : Nat} (hn : n ≤ 8) {g : Nat → Nat} (h : g_op n g ≠ 0) : z_tz (g_op n g) < n ∧ g (z_tz (g_op n g)) ≠ z_tz (g_op n g) := by
  obtain ⟨-, h1, h2⟩ := (z_tz_b (show n < 9 by omega) (g_op_lt hn g) (z_mk_lt n _)).1 h
  rw [g_op_tb, Bool.and_eq_true] at h2
  exact ⟨h1, of_decide_eq_true h2.2⟩
theorem g_fr_p {n : Nat} (hn : n ≤ 8) {g : Nat → Nat} (h : g_fr n g ≠ 0) : z_tz (g_fr n g) < n ∧ g (z_tz (g_fr n g)) ≠ z_tz (g_fr n g) ∧ g_wn n g (z_tz (g_fr n g)) = false := by
  obtain ⟨-, h1, h2⟩ := (z_tz_b (show n < 9 by omega) (g_fr_lt hn g) (z_mk_lt n _)).1 h
  rw [g_fr_tb, Bool.and_eq_true, Bool.and_eq_true, Bool.not_eq_true'] at h2
  exact ⟨h1, of_decide_eq_true h2.2.1, h2.2.2⟩
theorem g_mu_ge {n : Nat} {g : Nat → Nat} (h : g_op n g ≠ 0) : 2 ≤ g_mu n g := by
  have := g_op_cn h
  unfold g_mu
  omega
theorem g_mu_fi {n : Nat} {G : xGM} {p : Nat} (hp : p < n) (hg : G.1 p ≠ p) : g_mu n (g_fi G p).1 + 1 ≤ g_mu n G.1 := by
  have e : z_cn n (fun q => decide ((g_fi G p).1 q ≠ q)) + 1 = z_cn n (fun q => decide (G.1 q ≠ q)) := by
    rw [← z_cn_del (P := fun q => decide (G.1 q ≠ q)) (decide_eq_true hg) n hp]
    congr 1
    apply z_cn_congr
    intro j _
    show decide ((if j = p then p else G.1 j) ≠ j) = _
    by_cases ej : j = p
    · subst ej
      rw [if_pos rfl, decide_eq_false (show ¬ j ≠ j by omega), Bool.false_and]
    · rw [if_neg ej, decide_eq_true ej, Bool.true_and]
  unfold g_mu
  split <;> split <;> omega
theorem g_sa_op {n : Nat} {G : xGM} {p q : Nat} (hg : G.1 p ≠ p) (hq : q < n) : decide ((g_sa n G p).1 q ≠ q) = decide (G.1 q ≠ q) := by
  show decide ((if G.1 q = p then n else G.1 q) ≠ q) = _
  by_cases e : G.1 q = p
  · rw [if_pos e]
    have h1 : n ≠ q := by omega
    have h2 : G.1 q ≠ q := fun r => by
      have : q = p := r.symm.trans e
      subst this
      exact hg r
    rw [decide_eq_true h1, decide_eq_true h2]
  · rw [if_neg e]
theorem g_mu_sa {n : Nat} {G : xGM} {p : Nat} (hp : p < n) (hg : G.1 p ≠ p) (h0 : g_fr n G.1 = 0) : g_mu n (g_sa n G p).1 + 1 ≤ g_mu n G.1 := by
  have e : z_cn n (fun q => decide ((g_sa n G p).1 q ≠ q)) = z_cn n (fun q => decide (G.1 q ≠ q)) := z_cn_congr n (fun j hj => g_sa_op hg hj)
  have hne : g_fr n (g_sa n G p).1 ≠ 0 := by
    apply z_mk_ne hp
    rw [Bool.and_eq_true, Bool.not_eq_true']
    refine ⟨by rw [g_sa_op hg hp]; exact decide_eq_true hg, ?_⟩
    apply Bool.eq_false_iff.mpr
    intro hq
    obtain ⟨q, hq, hh⟩ := (z_any_iff _ _).mp hq
    rw [Bool.and_eq_true] at hh
    have h2 : (if G.1 q = p then n else G.1 q) = p := of_decide_eq_true hh.2
    by_cases eq : G.1 q = p
    · rw [if_pos eq] at h2; omega
    · rw [if_neg eq] at h2; exact eq h2
  unfold g_mu
  rw [e, if_neg hne, if_pos h0]
  omega
theorem g_fi_in {n : Nat} {G : xGM} {p : Nat} (h : gIn n G.1) (hp : p < n) : gIn n (g_fi G p).1 := fun q hq => by
  show (if q = p then p else G.1 q) ≤ n
  split
  · omega
  · exact h q hq
theorem g_sa_in {n : Nat} {G : xGM} {p : Nat} (h : gIn n G.1) : gIn n (g_sa n G p).1 := fun q hq => by
  show (if G.1 q = p then n else G.1 q) ≤ n
  split
  · omega
  · exact h q hq
theorem g_st_ok {n : Nat} (hn : n ≤ 8) {G : xGM} (h : gIn n G.1) (ho : g_op n G.1 ≠ 0) : gIn n (g_st n G).1 ∧ g_mu n (g_st n G).1 + 1 ≤ g_mu n G.1 ∧ (g_st n G).2.1 = G.2.1 + 1 := by
  unfold g_st
  by_cases hf : g_fr n G.1 = 0
  · rw [if_pos hf]
    obtain ⟨p1, p2⟩ := g_op_p hn ho
    exact ⟨g_sa_in h, g_mu_sa p1 p2 hf, rfl⟩
  · rw [if_neg hf]
    obtain ⟨p1, p2, p3⟩ := g_fr_p hn hf
    exact ⟨g_fi_in h p1, g_mu_fi p1 p2, rfl⟩
theorem g_mu_le {n : Nat} (hn : n ≤ 8) (g : Nat → Nat) : g_mu n g ≤ 17 := by
  have := z_cn_le n (fun p => decide (g p ≠ p))
  unfold g_mu
  split <;> omega
theorem g_run_in {n : Nat} (hn : n ≤ 8) : ∀ (f : Nat) (G : xGM), gIn n G.1 → G.2.1 + g_mu n G.1 ≤ 17 → (g_run n f G).2.1 ≤ 17
  | 0, G, _, h => by show G.2.1 ≤ 17; omega
  | f + 1, G, hi, h => by
    by_cases ho : g_op n G.1 = 0
    · rw [g_run_0 ho]; omega
    · rw [g_run_s ho]
      obtain ⟨a, b, c⟩ := g_st_ok hn hi ho
      exact g_run_in hn f (g_st n G) a (by omega)

