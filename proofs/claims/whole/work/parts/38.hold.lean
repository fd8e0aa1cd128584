/-! HOLD: what is held behind each line, as numbers -/
/-- a without b -/
def z_df (a b : Nat) : Nat := z_mk 8 (fun j => a.testBit j && !b.testBit j)
theorem z_df_lt (a b : Nat) : z_df a b < 256 := z_mk_lt8 (Nat.le_refl _) _
theorem z_df_tb {a b j : Nat} (hj : j < 8) : (z_df a b).testBit j = (a.testBit j && !b.testBit j) := by
  unfold z_df; rw [z_mk_tb, decide_eq_true hj, Bool.true_and]
theorem z_hi {a j : Nat} (ha : a < 256) (hj : ¬ j < 8) : a.testBit j = false := Nat.testBit_lt_two_pow (Nat.lt_of_lt_of_le ha (show 2 ^ 8 ≤ 2 ^ j from Nat.pow_le_pow_right (by decide) (by omega)))
theorem z_df_ok {a b : Nat} (ha : a < 256) : nI a &&& (nI b ^^^ (-1)) = nI (z_df a b) := by
  apply Int32.toBitVec_inj.1
  show BitVec.ofNat 32 a &&& (BitVec.ofNat 32 b ^^^ BitVec.allOnes 32) = BitVec.ofNat 32 (z_df a b)
  apply BitVec.eq_of_getLsbD_eq
  intro i hi
  unfold z_df
  simp only [BitVec.getLsbD_and, BitVec.getLsbD_xor, BitVec.getLsbD_ofNat, BitVec.getLsbD_allOnes, hi, decide_true, Bool.true_and, z_mk_tb]
  by_cases h8 : i < 8
  · rw [decide_eq_true h8]
    cases a.testBit i <;> cases b.testBit i <;> rfl
  · rw [z_hi ha h8, decide_eq_false h8]; rfl
theorem z_m1 (x : Int32) : x &&& (-1) = x := by
  apply Int32.toBitVec_inj.1
  show x.toBitVec &&& BitVec.allOnes 32 = x.toBitVec
  exact BitVec.and_allOnes
theorem z_cn_mono : ∀ (k : Nat) {p q : Nat → Bool}, (∀ j, j < k → p j = true → q j = true) → z_cn k p ≤ z_cn k q
  | 0, _, _, _ => Nat.le_refl _
  | k + 1, p, q, h => by
    have ih := z_cn_mono k (p := p) (q := q) (fun j hj => h j (by omega))
    rw [z_cn_s, z_cn_s]
    cases hp : p k with
    | false => rw [if_neg Bool.false_ne_true]; omega
    | true => rw [h k (by omega) hp, if_pos rfl]; omega
theorem z_pc_mono {a b : Nat} (h : ∀ j, j < 8 → a.testBit j = true → b.testBit j = true) : z_pc a ≤ z_pc b := z_cn_mono 8 h
theorem z_cn_pos : ∀ (k : Nat) (p : Nat → Bool), 0 < z_cn k p → ∃ j, j < k ∧ p j = true
  | 0, _, h => absurd h (Nat.lt_irrefl _)
  | k + 1, p, h => by
    rw [z_cn_s] at h
    cases hp : p k with
    | true => exact ⟨k, by omega, hp⟩
    | false =>
      rw [hp, if_neg Bool.false_ne_true] at h
      obtain ⟨j, hj, q⟩ := z_cn_pos k p (by omega)
      exact ⟨j, by omega, q⟩
theorem z_pc_cl : ∀ m, m < 256 → ∀ b, b < 8 → m.testBit b = true → z_pc (z_cl m b) + 1 = z_pc m := by decide +kernel
theorem z_pc_or : ∀ m, m < 256 → ∀ b, b < 8 → z_pc (m ||| 2 ^ b) ≤ z_pc m + 1 ∧ m ||| 2 ^ b < 256 := by decide +kernel
theorem z_pc_2 : ∀ a, a < 8 → ∀ b, b < 8 → z_pc (2 ^ a ||| 2 ^ b) ≤ 2 := by decide +kernel
theorem z_pc_1 : ∀ a, a < 8 → z_pc (2 ^ a) ≤ 2 := by decide +kernel
theorem tU_pc {T : xT} (h : tW T) {l : Nat} (hl : l < tn T) : z_pc (tU T l) ≤ 2 := by
  have hm := (h.2 l hl).2.1
  by_cases h0 : 0 < tm T l
  · have u0 := tu_lt h hl h0
    rw [Nat.add_zero] at u0
    by_cases h1 : 1 < tm T l
    · have u1 := tu_lt h hl h1
      refine Nat.le_trans (z_pc_mono (fun j hj q => ?_)) (z_pc_2 _ u0 _ u1)
      rw [tU_tb T l hj] at q
      obtain ⟨i, hi, e⟩ := (tr_iff hm).mp q
      rw [Nat.testBit_or, Nat.testBit_two_pow, Nat.testBit_two_pow, Bool.or_eq_true]
      rcases (show i = 0 ∨ i = 1 by omega) with rfl | rfl
      · exact Or.inl (decide_eq_true e)
      · exact Or.inr (decide_eq_true e)
    · refine Nat.le_trans (z_pc_mono (fun j hj q => ?_)) (z_pc_1 _ u0)
      rw [tU_tb T l hj] at q
      obtain ⟨i, hi, e⟩ := (tr_iff hm).mp q
      rw [Nat.testBit_two_pow]
      have : i = 0 := by omega
      subst this
      exact decide_eq_true e
  · refine Nat.le_trans (z_pc_mono (b := 0) (fun j hj q => ?_)) (by decide)
    rw [tU_tb T l hj] at q
    obtain ⟨i, hi, e⟩ := (tr_iff hm).mp q
    omega
/-! which is dropped -/
def h_rk (T : xT) (l v : Nat) : Nat := if tL T l v = 0 then 9 else tL T l v
theorem h_rk0 {T : xT} {l v : Nat} (h : tL T l v = 0) : h_rk T l v = 9 := if_pos h
theorem h_rkn {T : xT} {l v : Nat} (h : tL T l v ≠ 0) : h_rk T l v = tL T l v := if_neg h
def h_pk (T : xT) (l c : Nat) : Nat → Nat × Nat
  | 0 => (0, 0)
  | v + 1 => if c.testBit v then (if (h_pk T l c v).2 ≤ h_rk T l v then (v, h_rk T l v) else h_pk T l c v) else h_pk T l c v
theorem h_pk_s (T : xT) (l c v : Nat) : h_pk T l c (v + 1) = if c.testBit v then (if (h_pk T l c v).2 ≤ h_rk T l v then (v, h_rk T l v) else h_pk T l c v) else h_pk T l c v := rfl
theorem h_pk_ok {T : xT} (h : tCh T) {l c : Nat} : ∀ k, (h_pk T l c k).2 ≤ 9 ∧ ((h_pk T l c k).2 ≠ 0 → (h_pk T l c k).1 < k ∧ c.testBit (h_pk T l c k).1 = true) ∧ ((h_pk T l c k).2 = 0 → ∀ v, v < k → c.testBit v = false)
  | 0 => ⟨Nat.zero_le _, fun q => absurd rfl q, fun _ v hv => absurd hv (Nat.not_lt_zero _)⟩
  | k + 1 => by
    obtain ⟨i1, i2, i3⟩ := h_pk_ok h (l := l) (c := c) k
    have hrk : 0 < h_rk T l k ∧ h_rk T l k ≤ 9 := by
      have := tL_le h (l := l) (v := k)
      unfold h_rk
      split <;> omega
    rw [h_pk_s]
    cases hc : c.testBit k with
    | true =>
      rw [if_pos rfl]
      by_cases hle : (h_pk T l c k).2 ≤ h_rk T l k
      · rw [if_pos hle]
        refine ⟨hrk.2, fun _ => ⟨Nat.lt_succ_self _, hc⟩, fun q => ?_⟩
        have : h_rk T l k = 0 := q
        omega
      · rw [if_neg hle]
        refine ⟨i1, fun q => ⟨?_, (i2 q).2⟩, fun q => by omega⟩
        have := (i2 q).1
        omega
    | false =>
      rw [if_neg Bool.false_ne_true]
      refine ⟨i1, fun q => ⟨?_, (i2 q).2⟩, fun q v hv => ?_⟩
      · have := (i2 q).1
        omega
      · by_cases e : v = k
        · rw [e]; exact hc
        · exact i3 q v (by omega)
theorem h_pk_ne {T : xT} (h : tCh T) {l c v : Nat} (hv : v < tn T) (hc : c.testBit v = true) : (h_pk T l c (tn T)).2 ≠ 0 := fun q => by
  rw [(h_pk_ok h (l := l) (c := c) (tn T)).2.2 q v hv] at hc
  cases hc
def dI (p : Nat × Nat) : Int32 := if p.2 = 0 then -9 else nI p.1
def lC (r : Nat) : Int32 := if r = 9 then 1000 else nI r
def lM (r : Nat) : Int32 := if r = 0 then -9 else nI r
theorem dI_0 {p : Nat × Nat} (h : p.2 = 0) : dI p = -9 := if_pos h
theorem dI_n {p : Nat × Nat} (h : p.2 ≠ 0) : dI p = nI p.1 := if_neg h
theorem lC_lt : ∀ t, t < 9 → ∀ r, r < 10 → (nI t < lC r ↔ t < r) := by decide +kernel
theorem lC_9 : ∀ r, r < 10 → ¬ 1000 < lC r := by decide +kernel
theorem lC_e : ∀ r, r < 10 → (lC r = 1000 ↔ r = 9) := by decide +kernel
theorem lC_n {r : Nat} (h : r ≠ 9) : lC r = nI r := if_neg h
theorem lM_lt : ∀ t, t < 10 → ∀ r, r < 10 → (nI t < lM r ↔ t < r) := by decide +kernel
theorem lM_8 : ∀ r, r < 10 → r ≠ 0 → (lM r ≤ 8 ↔ r ≠ 9) := by decide +kernel
theorem lM_n {r : Nat} (h : r ≠ 0) : lM r = nI r := if_neg h
/-- held, spilled, fetches, drops -/
abbrev xH : Type := Nat × Nat × Nat × Nat
def h_dr (T : xT) (l c : Nat) (H : xH) : xH := if (h_pk T l c (tn T)).2 = 0 then H else (z_cl H.1 (h_pk T l c (tn T)).1, (if (h_pk T l c (tn T)).2 = 9 then H.2.1 else H.2.1 ||| 2 ^ (h_pk T l c (tn T)).1), H.2.2.1, H.2.2.2 + 1)
def h_rm (T : xT) (l k c : Nat) (H : xH) : xH := if k ≤ z_pc H.1 then h_dr T l c H else H
def h_u1 (T : xT) (l k i : Nat) (H : xH) : xH := if H.1.testBit (tu T (2 * l + i)) then H else ((h_rm T l k (z_df H.1 (tU T l)) H).1 ||| 2 ^ tu T (2 * l + i), (h_rm T l k (z_df H.1 (tU T l)) H).2.1, (h_rm T l k (z_df H.1 (tU T l)) H).2.2.1 + 1, (h_rm T l k (z_df H.1 (tU T l)) H).2.2.2)
def h_us (T : xT) (l k : Nat) (H : xH) : Nat → xH
  | 0 => H
  | i + 1 => h_u1 T l k i (h_us T l k H i)
def h_be (T : xT) (l : Nat) (H : xH) : xH := (H.1 &&& mUb T l, H.2)
def h_ad (l : Nat) (H : xH) : xH := (H.1 ||| 2 ^ l, H.2)
def h_ln (T : xT) (l k : Nat) (H : xH) : xH := h_ad l (h_rm T l k (h_be T l (h_us T l k H (tm T l))).1 (h_be T l (h_us T l k H (tm T l))))
def h_go (T : xT) (k : Nat) : Nat → (Nat → Nat) × xH
  | 0 => (fun _ => 0, (0, 0, 0, 0))
  | l + 1 => ((fun j => if j = l then (h_ln T l k ((if ta T l < 8 then (h_go T k l).1 (ta T l) else 0), (h_go T k l).2.2)).1 else (h_go T k l).1 j), h_ln T l k ((if ta T l < 8 then (h_go T k l).1 (ta T l) else 0), (h_go T k l).2.2))
/-- what is held are lines, never more than k -/
def hOk (n k : Nat) (m : Nat) : Prop := m < 256 ∧ (∀ j, m.testBit j = true → j < n) ∧ z_pc m ≤ k
theorem h_dr_n {T : xT} {l c : Nat} {H : xH} (h : (h_pk T l c (tn T)).2 ≠ 0) : h_dr T l c H = (z_cl H.1 (h_pk T l c (tn T)).1, (if (h_pk T l c (tn T)).2 = 9 then H.2.1 else H.2.1 ||| 2 ^ (h_pk T l c (tn T)).1), H.2.2.1, H.2.2.2 + 1) := if_neg h
theorem h_dr_0 {T : xT} {l c : Nat} {H : xH} (h : (h_pk T l c (tn T)).2 = 0) : h_dr T l c H = H := if_pos h
theorem h_rm_y {T : xT} {l k c : Nat} {H : xH} (h : k ≤ z_pc H.1) : h_rm T l k c H = h_dr T l c H := if_pos h
theorem h_rm_n {T : xT} {l k c : Nat} {H : xH} (h : ¬ k ≤ z_pc H.1) : h_rm T l k c H = H := if_neg h
theorem z_cl_sub {m k j : Nat} (hm : m < 256) (hk : k < 8) (h : (z_cl m k).testBit j = true) : m.testBit j = true := by
  by_cases hj : j < 8
  · rw [z_cl_tb m hm k hk j hj, Bool.and_eq_true] at h; exact h.1
  · rw [z_hi (z_cl_lt m hm k hk) hj] at h; cases h
theorem h_rm_ok {T : xT} (hW : tCh T) {l k c : Nat} {H : xH} (h : hOk (tn T) k H.1) (hc : k ≤ z_pc H.1 → ∃ v, v < 8 ∧ c.testBit v = true) (hs : ∀ v, v < 8 → c.testBit v = true → H.1.testBit v = true) : hOk (tn T) k (h_rm T l k c H).1 ∧ z_pc (h_rm T l k c H).1 < k ∧ (k ≤ z_pc H.1 → (h_pk T l c (tn T)).2 ≠ 0) := by
  have h8 := hW.1
  by_cases hk : k ≤ z_pc H.1
  · obtain ⟨v, hv8, hv⟩ := hc hk
    have hvn := h.2.1 v (hs v hv8 hv)
    have hne := h_pk_ne hW (l := l) hvn hv
    obtain ⟨p1, p2, -⟩ := h_pk_ok hW (l := l) (c := c) (tn T)
    obtain ⟨q1, q2⟩ := p2 hne
    have q3 := hs _ (by omega) q2
    have hcl := z_pc_cl H.1 h.1 _ (show (h_pk T l c (tn T)).1 < 8 by omega) q3
    have := h.2.2
    rw [h_rm_y hk, h_dr_n hne]
    refine ⟨⟨z_cl_lt _ h.1 _ (by omega), fun j hj => h.2.1 j (z_cl_sub h.1 (by omega) hj), ?_⟩, ?_, fun _ => hne⟩
    · show z_pc (z_cl H.1 _) ≤ k
      omega
    · show z_pc (z_cl H.1 _) < k
      omega
  · rw [h_rm_n hk]
    exact ⟨h, by omega, fun q => absurd q hk⟩
/-- candidates of a fetch: there is one -/
theorem h_cand {T : xT} (hW : tW T) {l k m : Nat} (hl : l < tn T) (hk3 : 3 ≤ k) (hk : k ≤ z_pc m) : ∃ v, v < 8 ∧ (z_df m (tU T l)).testBit v = true := by
  apply Classical.byContradiction
  intro hn
  have hle : z_pc m ≤ z_pc (tU T l) := z_pc_mono (fun j hj q => by
    cases hu : (tU T l).testBit j with
    | true => rfl
    | false => exact absurd ⟨j, hj, by rw [z_df_tb hj, q, hu]; rfl⟩ hn)
  have := tU_pc hW hl
  omega
theorem h_u1_ok {T : xT} (hW : tW T) {l k i : Nat} {H : xH} (hl : l < tn T) (hi : i < tm T l) (hk3 : 3 ≤ k) (h : hOk (tn T) k H.1) : hOk (tn T) k (h_u1 T l k i H).1 := by
  have h8 := hW.1.1
  have hu := tb_lt' hW.1 hl ((hW.2 l hl).2.2.1 i hi)
  unfold h_u1
  by_cases ht : H.1.testBit (tu T (2 * l + i)) = true
  · rw [if_pos ht]; exact h
  · rw [if_neg ht]
    obtain ⟨r1, r2, -⟩ := h_rm_ok (l := l) (k := k) (c := z_df H.1 (tU T l)) hW.1 h (fun q => h_cand hW hl hk3 q) (fun v hv q => by rw [z_df_tb hv, Bool.and_eq_true] at q; exact q.1)
    obtain ⟨o1, o2⟩ := z_pc_or _ r1.1 (tu T (2 * l + i)) (by omega)
    refine ⟨o2, fun j hj => ?_, ?_⟩
    · have hj' : ((h_rm T l k (z_df H.1 (tU T l)) H).1 ||| 2 ^ tu T (2 * l + i)).testBit j = true := hj
      rw [Nat.testBit_or, Nat.testBit_two_pow, Bool.or_eq_true] at hj'
      rcases hj' with q | q
      · exact r1.2.1 j q
      · have := of_decide_eq_true q; omega
    · show z_pc ((h_rm T l k (z_df H.1 (tU T l)) H).1 ||| 2 ^ tu T (2 * l + i)) ≤ k
      omega
theorem h_us_ok {T : xT} (hW : tW T) {l k : Nat} {H : xH} (hl : l < tn T) (hk3 : 3 ≤ k) (h : hOk (tn T) k H.1) : ∀ i, i ≤ tm T l → hOk (tn T) k (h_us T l k H i).1
  | 0, _ => h
  | i + 1, hi => h_u1_ok hW hl (by omega) hk3 (h_us_ok hW hl hk3 h i (by omega))
theorem h_be_ok {T : xT} {l k : Nat} {H : xH} (h : hOk (tn T) k H.1) : hOk (tn T) k (h_be T l H).1 := by
  refine ⟨Nat.lt_of_le_of_lt Nat.and_le_left h.1, fun j hj => ?_, ?_⟩
  · have hj' : (H.1 &&& mUb T l).testBit j = true := hj
    rw [Nat.testBit_and, Bool.and_eq_true] at hj'
    exact h.2.1 j hj'.1
  · refine Nat.le_trans (z_pc_mono (fun j _ hj => ?_)) h.2.2
    have hj' : (H.1 &&& mUb T l).testBit j = true := hj
    rw [Nat.testBit_and, Bool.and_eq_true] at hj'
    exact hj'.1
theorem h_some {m k : Nat} (hk3 : 3 ≤ k) (hk : k ≤ z_pc m) : ∃ v, v < 8 ∧ m.testBit v = true := z_cn_pos 8 _ (show 0 < z_pc m by omega)
theorem h_ln_ok {T : xT} (hW : tW T) {l k : Nat} {H : xH} (hl : l < tn T) (hk3 : 3 ≤ k) (h : hOk (tn T) k H.1) : hOk (tn T) k (h_ln T l k H).1 := by
  have h8 := hW.1.1
  have h1 := h_be_ok (l := l) (h_us_ok hW hl hk3 h (tm T l) (Nat.le_refl _))
  obtain ⟨r1, r2, -⟩ := h_rm_ok (l := l) (k := k) (c := (h_be T l (h_us T l k H (tm T l))).1) hW.1 h1 (fun q => h_some hk3 q) (fun v _ q => q)
  obtain ⟨o1, o2⟩ := z_pc_or _ r1.1 l (by omega)
  unfold h_ln h_ad
  refine ⟨o2, fun j hj => ?_, ?_⟩
  · have hj' : ((h_rm T l k (h_be T l (h_us T l k H (tm T l))).1 (h_be T l (h_us T l k H (tm T l)))).1 ||| 2 ^ l).testBit j = true := hj
    rw [Nat.testBit_or, Nat.testBit_two_pow, Bool.or_eq_true] at hj'
    rcases hj' with q | q
    · exact r1.2.1 j q
    · have := of_decide_eq_true q; omega
  · show z_pc ((h_rm T l k (h_be T l (h_us T l k H (tm T l))).1 (h_be T l (h_us T l k H (tm T l)))).1 ||| 2 ^ l) ≤ k
    omega
theorem hOk_0 (n k : Nat) : hOk n k 0 := ⟨by decide, fun j hj => (by rw [Nat.zero_testBit] at hj; cases hj), Nat.zero_le _⟩
def h_in (T : xT) (k l : Nat) : xH := ((if ta T l < 8 then (h_go T k l).1 (ta T l) else 0), (h_go T k l).2.2)
theorem h_go_s (T : xT) (k l : Nat) : h_go T k (l + 1) = ((fun j => if j = l then (h_ln T l k (h_in T k l)).1 else (h_go T k l).1 j), h_ln T l k (h_in T k l)) := rfl
theorem h_go_ok {T : xT} (hW : tW T) {k : Nat} (hk3 : 3 ≤ k) : ∀ l, l ≤ tn T → (∀ j, hOk (tn T) k ((h_go T k l).1 j)) 
  | 0, _ => fun _ => hOk_0 _ _
  | l + 1, hl => fun j => by
    have ih := h_go_ok hW hk3 l (by omega)
    rw [h_go_s]
    show hOk (tn T) k (if j = l then (h_ln T l k (h_in T k l)).1 else (h_go T k l).1 j)
    by_cases e : j = l
    · rw [if_pos e]
      apply h_ln_ok hW (by omega) hk3
      show hOk (tn T) k (if ta T l < 8 then (h_go T k l).1 (ta T l) else 0)
      by_cases ea : ta T l < 8
      · rw [if_pos ea]; exact ih _
      · rw [if_neg ea]; exact hOk_0 _ _
    · rw [if_neg e]; exact ih j
theorem h_in_ok {T : xT} (hW : tW T) {k l : Nat} (hk3 : 3 ≤ k) (hl : l ≤ tn T) : hOk (tn T) k (h_in T k l).1 := by
  show hOk (tn T) k (if ta T l < 8 then (h_go T k l).1 (ta T l) else 0)
  by_cases ea : ta T l < 8
  · rw [if_pos ea]; exact h_go_ok hW hk3 l hl _
  · rw [if_neg ea]; exact hOk_0 _ _

