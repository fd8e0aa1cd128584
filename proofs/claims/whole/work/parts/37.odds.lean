/-! ODDS -/
def nJ (n : Nat) : Int64 := Int64.ofNat n
theorem j_rem : ∀ a, a < 65 → ∀ b, b < 65 → b ≠ 0 → nJ a - nJ a / nJ b * nJ b = nJ (a % b) := by decide +kernel
theorem j_div : ∀ a, a < 65 → ∀ b, b < 65 → b ≠ 0 → nJ a / nJ b = nJ (a / b) := by decide +kernel
theorem j_cmp : ∀ a, a < 65 → (lg_cmp (nJ a) 0 = 0 ↔ a = 0) := by decide +kernel
theorem j_0 : ∀ a, a < 65 → (nJ a = 0 ↔ a = 0) := by decide +kernel
theorem i_rem : ∀ a, a < 65 → ∀ b, b < 65 → b ≠ 0 → nI a - nI a / nI b * nI b = nI (a % b) := by decide +kernel
theorem i_div : ∀ a, a < 65 → ∀ b, b < 65 → b ≠ 0 → nI a / nI b = nI (a / b) := by decide +kernel
theorem i_64 : ∀ a, a < 65 → (nI a).toInt64 = nJ a := by decide +kernel
theorem i_lo : ∀ n, n < 9 → 2 ≤ n → (nI n * (nI n - 1)) / 2 = nI (n * (n - 1) / 2) ∧ 0 < n * (n - 1) / 2 ∧ n * (n - 1) / 2 < 29 := by decide +kernel
def gsh (a b : Nat) : Nat → Nat
  | 0 => 1
  | d + 1 => if d + 1 ≤ 1 then 1 else if a % (d + 1) = 0 ∧ b % (d + 1) = 0 then d + 1 else gsh a b d
theorem gsh_ok : ∀ a, a < 65 → ∀ b, b < 29 → 0 < b → gsh a b b = Nat.gcd a b := by decide +kernel
theorem G_Vp_greatestShared_0 {d : Nat} {x0 : Int32} {x1 : Int32} {w : xWd} {Q : xMV → xWd → Prop} (h : xWp d m_Vp_greatestShared 2 [xI x0, xI x1, xI x1] [] w Q) : xWp d m_Vp_greatestShared 0 [xI x0, xI x1, xU] [] w Q := by
  refine x_goN 2 (pc' := 2) (ls' := [xI x0, xI x1, xI x1]) (st' := []) (w' := w) rfl ?_
  exact h
theorem G_Vp_greatestShared_2 {d : Nat} {x0 : Int32} {x1 : Int32} {x2 : Int32} {w : xWd} {Q : xMV → xWd → Prop} (h : ((x2 ≤ 1 → Q (xI 1) w) ∧ (¬ (x2 ≤ 1) → (¬ x2 = 0 ∧ ((x0 - x0 / x2 * x2 = 0 → (¬ x2 = 0 ∧ ((x1 - x1 / x2 * x2 = 0 → Q (xI x2) w) ∧ (¬ (x1 - x1 / x2 * x2 = 0) → xWp d m_Vp_greatestShared 2 [xI x0, xI x1, xI (x2 + (-1))] [] w Q)))) ∧ (¬ (x0 - x0 / x2 * x2 = 0) → xWp d m_Vp_greatestShared 2 [xI x0, xI x1, xI (x2 + (-1))] [] w Q)))))) : xWp d m_Vp_greatestShared 2 [xI x0, xI x1, xI x2] [] w Q := by
  refine x_goN 3 (pc' := if x2 ≤ 1 then 27 else 7) (ls' := [xI x0, xI x1, xI x2]) (st' := []) (w' := w) rfl ?_
  refine x_br (fun c1 => ?_) (fun c1 => ?_)
  · skip
    refine x_goN 1 (pc' := 28) (ls' := [xI x0, xI x1, xI x2]) (st' := [xI 1]) (w' := w) rfl ?_
    exact x_ret (P := True) rfl trivial (h.1 c1)
  · skip
    refine x_goN 2 (pc' := 9) (ls' := [xI x0, xI x1, xI x2]) (st' := [xI x2, xI x0]) (w' := w) rfl ?_
    refine x_ob (P := ¬ x2 = 0) (pc' := 10) (ls' := [xI x0, xI x1, xI x2]) (st' := [xI (x0 - x0 / x2 * x2)]) (w' := w) rfl (h.2 c1).1 ?_
    refine x_goN 1 (pc' := if x0 - x0 / x2 * x2 = 0 then 13 else 21) (ls' := [xI x0, xI x1, xI x2]) (st' := []) (w' := w) rfl ?_
    refine x_br (fun c2 => ?_) (fun c2 => ?_)
    · skip
      refine x_goN 2 (pc' := 15) (ls' := [xI x0, xI x1, xI x2]) (st' := [xI x2, xI x1]) (w' := w) rfl ?_
      refine x_ob (P := ¬ x2 = 0) (pc' := 16) (ls' := [xI x0, xI x1, xI x2]) (st' := [xI (x1 - x1 / x2 * x2)]) (w' := w) rfl ((h.2 c1).2.1 c2).1 ?_
      refine x_goN 1 (pc' := if x1 - x1 / x2 * x2 = 0 then 19 else 21) (ls' := [xI x0, xI x1, xI x2]) (st' := []) (w' := w) rfl ?_
      refine x_br (fun c3 => ?_) (fun c3 => ?_)
      · skip
        refine x_goN 1 (pc' := 20) (ls' := [xI x0, xI x1, xI x2]) (st' := [xI x2]) (w' := w) rfl ?_
        exact x_ret (P := True) rfl trivial (((h.2 c1).2.1 c2).2.1 c3)
      · skip
        refine x_goN 2 (pc' := 2) (ls' := [xI x0, xI x1, xI (x2 + (-1))]) (st' := []) (w' := w) rfl ?_
        exact (((h.2 c1).2.1 c2).2.2 c3)
    · skip
      refine x_goN 2 (pc' := 2) (ls' := [xI x0, xI x1, xI (x2 + (-1))]) (st' := []) (w' := w) rfl ?_
      exact ((h.2 c1).2.2 c2)
theorem L_gsh {d a b : Nat} {w : xWd} {Q : xMV → xWd → Prop} (ha : a < 65) (hb : b < 29) : ∀ k, k < 29 → Q (xI (nI (gsh a b k))) w → xWp d m_Vp_greatestShared 2 [xI (nI a), xI (nI b), xI (nI k)] [] w Q := by
  intro k
  induction k with
  | zero => intro _ h; exact G_Vp_greatestShared_2 ⟨fun _ => h, fun c => absurd (by decide) c⟩
  | succ k ih =>
    intro hk h
    have e1 : (nI (k + 1) ≤ 1 ↔ k + 1 ≤ 1) := z_le (b := 1) (by omega) (by decide)
    have h0 : ¬ nI (k + 1) = 0 := fun q => by
      have := (z_eq (b := 0) (by omega) (by decide)).mp q
      omega
    have em : nI (k + 1) + (-1) = nI k := by
      have : nI (k + 1) - 1 = nI k := pk_sub (b := 1) (by omega)
      rw [← this, Int32.sub_eq_add_neg]
    unfold gsh at h
    refine G_Vp_greatestShared_2 ?_
    rw [i_rem a ha (k + 1) (by omega) (by omega), i_rem b (by omega) (k + 1) (by omega) (by omega), em]
    have ea : (nI (a % (k + 1)) = 0 ↔ a % (k + 1) = 0) := z_eq (b := 0) (by have := Nat.mod_le a (k + 1); omega) (by decide)
    have eb : (nI (b % (k + 1)) = 0 ↔ b % (k + 1) = 0) := z_eq (b := 0) (by have := Nat.mod_le b (k + 1); omega) (by decide)
    refine ⟨fun c => ?_, fun c => ?_⟩
    · rw [if_pos (e1.mp c)] at h; exact h
    · rw [if_neg (fun q => c (e1.mpr q))] at h
      refine ⟨h0, fun ca => ⟨h0, fun cb => ?_, fun cb => ?_⟩, fun ca => ?_⟩
      · rw [if_pos ⟨ea.mp ca, eb.mp cb⟩] at h; exact h
      · rw [if_neg (fun q => cb (eb.mpr q.2))] at h; exact ih (by omega) h
      · rw [if_neg (fun q => ca (ea.mpr q.1))] at h; exact ih (by omega) h
theorem G_Md_inLeastTerms_0 {d : Nat} {l0 : Int64} {l2 : Int64} {x4 : Int32} {w : xWd} {Q : xMV → xWd → Prop} (h : xWp d m_Md_inLeastTerms 6 [xJ l0, xU, xJ l2, xU, xI x4, xJ l0, xU, xJ l2, xU, xU, xU] [] w Q) : xWp d m_Md_inLeastTerms 0 [xJ l0, xU, xJ l2, xU, xI x4, xU, xU, xU, xU, xU, xU] [] w Q := by
  refine x_goN 4 (pc' := 6) (ls' := [xJ l0, xU, xJ l2, xU, xI x4, xJ l0, xU, xJ l2, xU, xU, xU]) (st' := []) (w' := w) rfl ?_
  exact h
theorem G_Md_inLeastTerms_6 {d : Nat} {l0 : Int64} {l2 : Int64} {x4 : Int32} {l5 : Int64} {l7 : Int64} {c9 : xMV} {w : xWd} {Q : xMV → xWd → Prop} (h : ((lg_cmp l7 0 = 0 → ((x4 = 0 → (¬ l5 = 0 ∧ Q (xJ (l0 / l5)) w)) ∧ (¬ (x4 = 0) → (¬ l5 = 0 ∧ Q (xJ (l2 / l5)) w)))) ∧ (¬ (lg_cmp l7 0 = 0) → (¬ l7 = 0 ∧ xWp d m_Md_inLeastTerms 6 [xJ l0, xU, xJ l2, xU, xI x4, xJ l7, xU, xJ (l5 - l5 / l7 * l7), xU, xJ (l5 - l5 / l7 * l7), xU] [] w Q)))) : xWp d m_Md_inLeastTerms 6 [xJ l0, xU, xJ l2, xU, xI x4, xJ l5, xU, xJ l7, xU, c9, xU] [] w Q := by
  refine x_goN 4 (pc' := if lg_cmp l7 0 = 0 then 31 else 13) (ls' := [xJ l0, xU, xJ l2, xU, xI x4, xJ l5, xU, xJ l7, xU, c9, xU]) (st' := []) (w' := w) rfl ?_
  refine x_br (fun c1 => ?_) (fun c1 => ?_)
  · skip
    refine x_goN 2 (pc' := if x4 = 0 then 36 else 43) (ls' := [xJ l0, xU, xJ l2, xU, xI x4, xJ l5, xU, xJ l7, xU, c9, xU]) (st' := []) (w' := w) rfl ?_
    refine x_br (fun c2 => ?_) (fun c2 => ?_)
    · skip
      refine x_goN 2 (pc' := 39) (ls' := [xJ l0, xU, xJ l2, xU, xI x4, xJ l5, xU, xJ l7, xU, c9, xU]) (st' := [xJ l5, xJ l0]) (w' := w) rfl ?_
      refine x_ob (P := ¬ l5 = 0) (pc' := 40) (ls' := [xJ l0, xU, xJ l2, xU, xI x4, xJ l5, xU, xJ l7, xU, c9, xU]) (st' := [xJ (l0 / l5)]) (w' := w) rfl ((h.1 c1).1 c2).1 ?_
      refine x_goN 1 (pc' := 47) (ls' := [xJ l0, xU, xJ l2, xU, xI x4, xJ l5, xU, xJ l7, xU, c9, xU]) (st' := [xJ (l0 / l5)]) (w' := w) rfl ?_
      exact x_ret (P := True) rfl trivial ((h.1 c1).1 c2).2
    · skip
      refine x_goN 2 (pc' := 46) (ls' := [xJ l0, xU, xJ l2, xU, xI x4, xJ l5, xU, xJ l7, xU, c9, xU]) (st' := [xJ l5, xJ l2]) (w' := w) rfl ?_
      refine x_ob (P := ¬ l5 = 0) (pc' := 47) (ls' := [xJ l0, xU, xJ l2, xU, xI x4, xJ l5, xU, xJ l7, xU, c9, xU]) (st' := [xJ (l2 / l5)]) (w' := w) rfl ((h.1 c1).2 c2).1 ?_
      exact x_ret (P := True) rfl trivial ((h.1 c1).2 c2).2
  · skip
    refine x_goN 2 (pc' := 17) (ls' := [xJ l0, xU, xJ l2, xU, xI x4, xJ l5, xU, xJ l7, xU, c9, xU]) (st' := [xJ l7, xJ l5]) (w' := w) rfl ?_
    refine x_ob (P := ¬ l7 = 0) (pc' := 18) (ls' := [xJ l0, xU, xJ l2, xU, xI x4, xJ l5, xU, xJ l7, xU, c9, xU]) (st' := [xJ (l5 - l5 / l7 * l7)]) (w' := w) rfl (h.2 c1).1 ?_
    refine x_goN 6 (pc' := 6) (ls' := [xJ l0, xU, xJ l2, xU, xI x4, xJ l7, xU, xJ (l5 - l5 / l7 * l7), xU, xJ (l5 - l5 / l7 * l7), xU]) (st' := []) (w' := w) rfl ?_
    exact (h.2 c1).2
theorem L_ilt {d u v : Nat} {x : Int32} {w : xWd} {Q : xMV → xWd → Prop} (hu : u < 65) (hv : v < 65) (h : Q (xJ (if x = 0 then nJ (u / Nat.gcd u v) else nJ (v / Nat.gcd u v))) w) : ∀ (f a b : Nat) (c9 : xMV), b < f → a < 65 → b < 65 → 0 < a + b → Nat.gcd a b = Nat.gcd u v → xWp d m_Md_inLeastTerms 6 [xJ (nJ u), xU, xJ (nJ v), xU, xI x, xJ (nJ a), xU, xJ (nJ b), xU, c9, xU] [] w Q := by
  intro f
  induction f with
  | zero => intro a b c9 hf; omega
  | succ f ih =>
    intro a b c9 hf ha hb hp hg
    refine G_Md_inLeastTerms_6 ⟨fun c => ?_, fun c => ?_⟩
    · have e := (j_cmp b hb).mp c
      subst e
      rw [Nat.gcd_zero_right] at hg
      have ha0 : a ≠ 0 := by omega
      have hj : ¬ nJ a = 0 := fun q => ha0 ((j_0 a ha).mp q)
      rw [j_div u hu a ha ha0, j_div v hv a ha ha0]
      rw [← hg] at h
      refine ⟨fun c2 => ⟨hj, ?_⟩, fun c2 => ⟨hj, ?_⟩⟩
      · rw [if_pos c2] at h; exact h
      · rw [if_neg c2] at h; exact h
    · have hb0 : b ≠ 0 := fun q => c ((j_cmp b hb).mpr q)
      have hlt := Nat.mod_lt a (show 0 < b by omega)
      rw [j_rem a ha b hb hb0]
      refine ⟨fun q => hb0 ((j_0 b hb).mp q), ih b (a % b) _ (by omega) hb (by omega) (by omega) ?_⟩
      rw [← hg, Nat.gcd_comm a b, Nat.gcd_rec b a, Nat.gcd_comm]
theorem G_Vp_odds_0 {d : Nat} {x1 : Int32} {w : xWd} {Q : xMV → xWd → Prop} (h : ((x1 < 0 → Q (xJ (-9223372036854775808)) w) ∧ (¬ (x1 < 0) → ((1 < x1 → Q (xJ (-9223372036854775808)) w) ∧ (¬ (1 < x1) → ((2 ≤ w 34 8 → xWp (d + 4) m_Tr_howManyCross 0 [xA 5 34, xU, xU] [] w (fun a w' => xWp (d + 5) m_Vp_odds 31 [xA 6 1, xI x1, xU, xU, xU] (x_pu a []) w' Q)) ∧ (¬ (2 ≤ w 34 8) → Q (xJ (-9223372036854775808)) w))))))) : xWp (d + 5) m_Vp_odds 0 [xA 6 1, xI x1, xU, xU, xU] [] w Q := by
  refine x_goN 2 (pc' := if x1 < 0 then 20 else 4) (ls' := [xA 6 1, xI x1, xU, xU, xU]) (st' := []) (w' := w) rfl ?_
  refine x_br (fun c1 => ?_) (fun c1 => ?_)
  · skip
    refine x_goN 1 (pc' := 23) (ls' := [xA 6 1, xI x1, xU, xU, xU]) (st' := [xJ (-9223372036854775808)]) (w' := w) rfl ?_
    exact x_ret (P := True) rfl trivial (h.1 c1)
  · skip
    refine x_goN 3 (pc' := if 1 < x1 then 20 else 9) (ls' := [xA 6 1, xI x1, xU, xU, xU]) (st' := []) (w' := w) rfl ?_
    refine x_br (fun c2 => ?_) (fun c2 => ?_)
    · skip
      refine x_goN 1 (pc' := 23) (ls' := [xA 6 1, xI x1, xU, xU, xU]) (st' := [xJ (-9223372036854775808)]) (w' := w) rfl ?_
      exact x_ret (P := True) rfl trivial ((h.2 c1).1 c2)
    · skip
      refine x_goN 5 (pc' := if 2 ≤ w 34 8 then 24 else 20) (ls' := [xA 6 1, xI x1, xU, xU, xU]) (st' := []) (w' := w) rfl ?_
      refine x_br (fun c3 => ?_) (fun c3 => ?_)
      · skip
        refine x_goN 2 (pc' := 28) (ls' := [xA 6 1, xI x1, xU, xU, xU]) (st' := [xA 5 34]) (w' := w) rfl ?_
        refine x_call (y := m_Tr_howManyCross) (as := [xA 5 34]) (rst := []) rfl [xA 5 34, xU, xU] rfl ?_
        exact (((h.2 c1).2 c2).1 c3)
      · skip
        refine x_goN 1 (pc' := 23) (ls' := [xA 6 1, xI x1, xU, xU, xU]) (st' := [xJ (-9223372036854775808)]) (w' := w) rfl ?_
        exact x_ret (P := True) rfl trivial (((h.2 c1).2 c2).2 c3)
theorem G_Vp_odds_31 {d : Nat} {x1 : Int32} {s0 : Int32} {w : xWd} {Q : xMV → xWd → Prop} (h : xWp (d + 4) m_Vp_greatestShared 0 [xI s0, xI (((w 34 8) * ((w 34 8) - 1)) / 2), xU] [] w (fun a w' => xWp (d + 5) m_Vp_odds 57 [xA 6 1, xI x1, xI s0, xI (((w 34 8) * ((w 34 8) - 1)) / 2), xU] (x_pu a []) w' Q)) : xWp (d + 5) m_Vp_odds 31 [xA 6 1, xI x1, xU, xU, xU] [xI s0] w Q := by
  refine x_goN 11 (pc' := 50) (ls' := [xA 6 1, xI x1, xI s0, xU, xU]) (st' := [xI 2, xI ((w 34 8) * ((w 34 8) - 1))]) (w' := w) rfl ?_
  refine x_ob (P := ¬ (2 : Int32) = 0) (pc' := 51) (ls' := [xA 6 1, xI x1, xI s0, xU, xU]) (st' := [xI (((w 34 8) * ((w 34 8) - 1)) / 2)]) (w' := w) rfl (by decide) ?_
  refine x_goN 3 (pc' := 54) (ls' := [xA 6 1, xI x1, xI s0, xI (((w 34 8) * ((w 34 8) - 1)) / 2), xU]) (st' := [xI (((w 34 8) * ((w 34 8) - 1)) / 2), xI s0]) (w' := w) rfl ?_
  refine x_call (y := m_Vp_greatestShared) (as := [xI s0, xI (((w 34 8) * ((w 34 8) - 1)) / 2)]) (rst := []) rfl [xI s0, xI (((w 34 8) * ((w 34 8) - 1)) / 2), xU] rfl ?_
  exact h
theorem G_Vp_odds_57 {d : Nat} {x1 : Int32} {x2 : Int32} {x3 : Int32} {s0 : Int32} {w : xWd} {Q : xMV → xWd → Prop} (h : ((x1 = 0 → (¬ s0 = 0 ∧ Q (xJ ((x2 / s0).toInt64)) w)) ∧ (¬ (x1 = 0) → (¬ s0 = 0 ∧ Q (xJ ((x3 / s0).toInt64)) w)))) : xWp (d + 5) m_Vp_odds 57 [xA 6 1, xI x1, xI x2, xI x3, xU] [xI s0] w Q := by
  refine x_goN 3 (pc' := if x1 = 0 then 63 else 71) (ls' := [xA 6 1, xI x1, xI x2, xI x3, xI s0]) (st' := []) (w' := w) rfl ?_
  refine x_br (fun c1 => ?_) (fun c1 => ?_)
  · skip
    refine x_goN 2 (pc' := 66) (ls' := [xA 6 1, xI x1, xI x2, xI x3, xI s0]) (st' := [xI s0, xI x2]) (w' := w) rfl ?_
    refine x_ob (P := ¬ s0 = 0) (pc' := 67) (ls' := [xA 6 1, xI x1, xI x2, xI x3, xI s0]) (st' := [xI (x2 / s0)]) (w' := w) rfl (h.1 c1).1 ?_
    refine x_goN 2 (pc' := 76) (ls' := [xA 6 1, xI x1, xI x2, xI x3, xI s0]) (st' := [xJ ((x2 / s0).toInt64)]) (w' := w) rfl ?_
    exact x_ret (P := True) rfl trivial (h.1 c1).2
  · skip
    refine x_goN 2 (pc' := 74) (ls' := [xA 6 1, xI x1, xI x2, xI x3, xI s0]) (st' := [xI s0, xI x3]) (w' := w) rfl ?_
    refine x_ob (P := ¬ s0 = 0) (pc' := 75) (ls' := [xA 6 1, xI x1, xI x2, xI x3, xI s0]) (st' := [xI (x3 / s0)]) (w' := w) rfl (h.2 c1).1 ?_
    refine x_goN 1 (pc' := 76) (ls' := [xA 6 1, xI x1, xI x2, xI x3, xI s0]) (st' := [xJ ((x3 / s0).toInt64)]) (w' := w) rfl ?_
    exact x_ret (P := True) rfl trivial (h.2 c1).2
theorem G_Md_odds_0 {d : Nat} {x1 : Int32} {w : xWd} {Q : xMV → xWd → Prop} (h : ((p_wi x1 0 1 → ((2 ≤ w 2 5 → xWp (d + 4) m_Md_manyCross 0 [xA 7 2, xU, xU, xU] [] w (fun a w' => xWp (d + 5) m_Md_odds 25 [xA 7 2, xI x1] (x_pu a []) w' Q)) ∧ (¬ (2 ≤ w 2 5) → Q (xJ (-9223372036854775808)) w))) ∧ (¬ (p_wi x1 0 1) → Q (xJ (-9223372036854775808)) w))) : xWp (d + 5) m_Md_odds 0 [xA 7 2, xI x1] [] w Q := by
  refine x_goN 3 (pc' := 3) (ls' := [xA 7 2, xI x1]) (st' := [xI 1, xI 0, xI x1]) (w' := w) rfl ?_
  refine x_call (y := m_Md_within) (as := [xI x1, xI 0, xI 1]) (rst := []) rfl [xI x1, xI 0, xI 1] rfl ?_
  refine S_Md_within (fun c1 => ?_) (fun c1 => ?_)
  · skip
    refine x_goN 1 (pc' := if (1 : Int32) = (0 : Int32) then 17 else 9) (ls' := [xA 7 2, xI x1]) (st' := []) (w' := w) rfl ?_
    refine x_brF (by decide) ?_
    refine x_goN 4 (pc' := if 2 ≤ w 2 5 then 21 else 17) (ls' := [xA 7 2, xI x1]) (st' := []) (w' := w) rfl ?_
    refine x_br (fun c2 => ?_) (fun c2 => ?_)
    · skip
      refine x_goN 1 (pc' := 22) (ls' := [xA 7 2, xI x1]) (st' := [xA 7 2]) (w' := w) rfl ?_
      refine x_call (y := m_Md_manyCross) (as := [xA 7 2]) (rst := []) rfl [xA 7 2, xU, xU, xU] rfl ?_
      exact ((h.1 c1).1 c2)
    · skip
      refine x_goN 1 (pc' := 20) (ls' := [xA 7 2, xI x1]) (st' := [xJ (-9223372036854775808)]) (w' := w) rfl ?_
      exact x_ret (P := True) rfl trivial ((h.1 c1).2 c2)
  · skip
    refine x_goN 1 (pc' := if (0 : Int32) = (0 : Int32) then 17 else 9) (ls' := [xA 7 2, xI x1]) (st' := []) (w' := w) rfl ?_
    refine x_brT (by decide) ?_
    refine x_goN 1 (pc' := 20) (ls' := [xA 7 2, xI x1]) (st' := [xJ (-9223372036854775808)]) (w' := w) rfl ?_
    exact x_ret (P := True) rfl trivial (h.2 c1)
theorem G_Md_odds_25 {d : Nat} {x1 : Int32} {s0 : Int32} {w : xWd} {Q : xMV → xWd → Prop} (h : xWp (d + 4) m_Md_inLeastTerms 0 [xJ s0.toInt64, xU, xJ ((((w 2 5) * ((w 2 5) - 1)) / 2).toInt64), xU, xI x1, xU, xU, xU, xU, xU, xU] [] w (fun a w' => xWp (d + 5) m_Md_odds 44 [xA 7 2, xI x1] (x_pu a []) w' Q)) : xWp (d + 5) m_Md_odds 25 [xA 7 2, xI x1] [xI s0] w Q := by
  refine x_goN 9 (pc' := 38) (ls' := [xA 7 2, xI x1]) (st' := [xI 2, xI ((w 2 5) * ((w 2 5) - 1)), xJ s0.toInt64]) (w' := w) rfl ?_
  refine x_ob (P := ¬ (2 : Int32) = 0) (pc' := 39) (ls' := [xA 7 2, xI x1]) (st' := [xI (((w 2 5) * ((w 2 5) - 1)) / 2), xJ s0.toInt64]) (w' := w) rfl (by decide) ?_
  refine x_goN 2 (pc' := 41) (ls' := [xA 7 2, xI x1]) (st' := [xI x1, xJ ((((w 2 5) * ((w 2 5) - 1)) / 2).toInt64), xJ s0.toInt64]) (w' := w) rfl ?_
  refine x_call (y := m_Md_inLeastTerms) (as := [xJ s0.toInt64, xJ ((((w 2 5) * ((w 2 5) - 1)) / 2).toInt64), xI x1]) (rst := []) rfl [xJ s0.toInt64, xU, xJ ((((w 2 5) * ((w 2 5) - 1)) / 2).toInt64), xU, xI x1, xU, xU, xU, xU, xU, xU] rfl ?_
  exact h
theorem G_Md_odds_44 {d : Nat} {x1 : Int32} {t0 : Int64} {w : xWd} {Q : xMV → xWd → Prop} (h : Q (xJ t0) w) : xWp (d + 5) m_Md_odds 44 [xA 7 2, xI x1] [xJ t0] w Q := by
  exact x_ret (P := True) rfl trivial h
theorem nCr_le {T : xT} (h : tCh T) : nCr T < 65 := by
  rw [nCr_eq h]
  have := nCm_le h.1
  omega
theorem O_odds (s : xS) (x : Int32) : oBJ m_Vp_odds [xA 6 1, xI x, xU, xU, xU] m_Md_odds [xA 7 2, xI x] s := by
  have e0 : (x < 0 ↔ x.toInt < 0) := by rw [fa_lt, e_l0]
  have e1 : (1 < x ↔ 1 < x.toInt) := by rw [fa_lt, e_l1]
  have ew : (p_wi x 0 1 ↔ 0 ≤ x.toInt ∧ x.toInt ≤ 1) := by unfold p_wi; rw [e_l0, e_l1]
  by_cases hx : 0 ≤ x.toInt ∧ x.toInt ≤ 1
  · have hx0 : ¬ x < 0 := fun c => by have := e0.mp c; omega
    have hx1 : ¬ 1 < x := fun c => by have := e1.mp c; omega
    by_cases hn : 2 ≤ tn (s_T s)
    · refine ⟨(if x = 0 then nJ (nCr (s_T s) / Nat.gcd (nCr (s_T s)) (tn (s_T s) * (tn (s_T s) - 1) / 2)) else nJ ((tn (s_T s) * (tn (s_T s) - 1) / 2) / Nat.gcd (nCr (s_T s)) (tn (s_T s) * (tn (s_T s) - 1) / 2))), s, fun w h => ?_, fun w h => ?_⟩
      · have h8 := s_n8 h.1
        have hc := nCr_le h.1.2.1.1
        obtain ⟨l1, l2, l3⟩ := i_lo (tn (s_T s)) (by omega) hn
        have hgd : Nat.gcd (nCr (s_T s)) (tn (s_T s) * (tn (s_T s) - 1) / 2) ≤ tn (s_T s) * (tn (s_T s) - 1) / 2 := Nat.gcd_le_right _ l2
        have hgp : 0 < Nat.gcd (nCr (s_T s)) (tn (s_T s) * (tn (s_T s) - 1) / 2) := Nat.gcd_pos_of_pos_right _ l2
        refine G_Vp_odds_0 ?_
        rw [sC_n h]
        refine ⟨fun c => absurd c hx0, fun _ => ⟨fun c => absurd c hx1, fun _ => ⟨fun _ => S_Tr_howManyCross (sC_R h) ?_, fun c => absurd ((z_le (a := 2) (by decide) (by omega)).mpr hn) c⟩⟩⟩
        refine G_Vp_odds_31 ?_
        rw [sC_n h, l1]
        refine G_Vp_greatestShared_0 (L_gsh hc l3 _ l3 ?_)
        rw [gsh_ok _ hc _ l3 l2]
        have hg0 : ¬ nI (Nat.gcd (nCr (s_T s)) (tn (s_T s) * (tn (s_T s) - 1) / 2)) = 0 := fun q => by
          have := (z_eq (b := 0) (by omega) (by decide)).mp q
          omega
        refine G_Vp_odds_57 ?_
        rw [i_div _ hc _ (by omega) (by omega), i_div _ (by omega) _ (by omega) (by omega)]
        refine ⟨fun c => ⟨hg0, cEe ?_ h⟩, fun c => ⟨hg0, cEe ?_ h⟩⟩
        · rw [if_pos c, i_64 _ (Nat.lt_of_le_of_lt (Nat.div_le_self _ _) hc)]
        · rw [if_neg c, i_64 _ (Nat.lt_of_le_of_lt (Nat.div_le_self _ _) (by omega))]
      · have h8 := s_n8 h.1
        have hc := nCr_le h.1.2.1.1
        obtain ⟨l1, l2, l3⟩ := i_lo (tn (s_T s)) (by omega) hn
        refine G_Md_odds_0 ?_
        rw [sM_n h]
        refine ⟨fun _ => ⟨fun _ => S_Md_manyCross (sM_S h) ?_, fun c => absurd ((z_le (a := 2) (by decide) (by omega)).mpr hn) c⟩, fun c => absurd (ew.mpr hx) c⟩
        refine G_Md_odds_25 ?_
        rw [sM_n h, l1, i_64 _ hc, i_64 _ (by omega)]
        exact G_Md_inLeastTerms_0 (L_ilt hc (by omega) (G_Md_odds_44 (mE h)) 65 _ _ _ (by omega) hc (by omega) (by omega) rfl)
    · refine ⟨(-9223372036854775808), s, fun w h => ?_, fun w h => ?_⟩
      · have h8 := s_n8 h.1
        refine G_Vp_odds_0 ?_
        rw [sC_n h]
        exact ⟨fun _ => cE h, fun _ => ⟨fun _ => cE h, fun _ => ⟨fun c => absurd ((z_le (a := 2) (by decide) (by omega)).mp c) hn, fun _ => cE h⟩⟩⟩
      · have h8 := s_n8 h.1
        refine G_Md_odds_0 ?_
        rw [sM_n h]
        exact ⟨fun _ => ⟨fun c => absurd ((z_le (a := 2) (by decide) (by omega)).mp c) hn, fun _ => mE h⟩, fun _ => mE h⟩
  · refine ⟨(-9223372036854775808), s, fun w h => G_Vp_odds_0 ⟨fun _ => cE h, fun c0 => ⟨fun _ => cE h, fun c1 => absurd ?_ hx⟩⟩, fun w h => G_Md_odds_0 ⟨fun c => absurd (ew.mp c) hx, fun _ => mE h⟩⟩
    rw [e0] at c0
    rw [e1] at c1
    omega

