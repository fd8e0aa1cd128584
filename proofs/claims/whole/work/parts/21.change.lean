/-! LINES ARE PUT ON, TAKEN AWAY, USE OTHER VALUES: the numbers -/
def tPut (T : xT) (k a : Nat) : xT := (tn T + 1, fun l => if l = tn T then k else tk T l, fun l => if l = tn T then a else ta T l, fun l => if l = tn T then 0 else tm T l, tu T)
def tUse (T : xT) (v : Nat) : xT := (tn T, tk T, ta T, fun l => if l = tn T - 1 then tm T l + 1 else tm T l, fun j => if j = 2 * (tn T - 1) + tm T (tn T - 1) then v else tu T j)
def tCut (T : xT) : xT := (tn T - 1, tk T, ta T, tm T, tu T)
def tReu (T : xT) (l i v : Nat) : xT := (tn T, tk T, ta T, tm T, fun j => if j = 2 * l + i then v else tu T j)
theorem t_bl_cg {ab ab' : Nat → Nat} {n : Nat} (h : ∀ l, l < n → ab l = ab' l) (hc : ∀ l, l < n → ab l = 8 ∨ ab l < n) : ∀ (f l v : Nat), l < n → t_bl ab f l v = t_bl ab' f l v
  | 0, _, _, _ => rfl
  | f + 1, l, v, hl => by
    rw [t_bl_s, t_bl_s, ← h l hl]
    rcases hc l hl with e | e
    · rw [e]; rfl
    · rw [t_bl_cg h hc f (ab l) v e]
theorem t_dp_cg {ab ab' : Nat → Nat} {n : Nat} (h : ∀ l, l < n → ab l = ab' l) (hc : ∀ l, l < n → ab l = 8 ∨ ab l < n) : ∀ (f l : Nat), l < n → t_dp ab f l = t_dp ab' f l
  | 0, _, _ => rfl
  | f + 1, l, hl => by
    rw [t_dp_s, t_dp_s, ← h l hl]
    rcases hc l hl with e | e
    · rw [e]; rfl
    · rw [t_dp_cg h hc f (ab l) e]
theorem tCh_c {T : xT} (h : tCh T) : ∀ l, l < tn T → ta T l = 8 ∨ ta T l < tn T := by
  intro l hl
  by_cases e : l = 0
  · exact Or.inl ((h.2 l hl).1 e)
  · have := (h.2 l hl).2 (by omega); exact Or.inr (by omega)
section PUT
variable {T : xT} {k a : Nat}
theorem tPut_a {l : Nat} (hl : l < tn T) : ta T l = ta (tPut T k a) l := by
  show ta T l = (if l = tn T then a else ta T l)
  rw [if_neg (by omega)]
theorem tPut_b (h : tCh T) {l v : Nat} (hl : l < tn T) : tb (tPut T k a) l v = tb T l v := (t_bl_cg (n := tn T) (fun l hl => tPut_a hl) (tCh_c h) 8 l v hl).symm
theorem tPut_d (h : tCh T) {l : Nat} (hl : l < tn T) : td (tPut T k a) l = td T l := (t_dp_cg (n := tn T) (fun l hl => tPut_a hl) (tCh_c h) 8 l hl).symm
theorem tPut_m {l : Nat} (hl : l < tn T) : tm (tPut T k a) l = tm T l := by
  show (if l = tn T then 0 else tm T l) = tm T l
  rw [if_neg (by omega)]
theorem tPut_k {l : Nat} (hl : l < tn T) : tk (tPut T k a) l = tk T l := by
  show (if l = tn T then k else tk T l) = tk T l
  rw [if_neg (by omega)]
theorem tPut_mn : tm (tPut T k a) (tn T) = 0 := if_pos rfl
theorem tPut_kn : tk (tPut T k a) (tn T) = k := if_pos rfl
theorem tPut_an : ta (tPut T k a) (tn T) = a := if_pos rfl
theorem tPut_n : tn (tPut T k a) = tn T + 1 := rfl
theorem tPut_r {l v : Nat} (hl : l < tn T) : tr (tPut T k a) l v = tr T l v := by
  unfold tr; rw [tPut_m hl]; rfl
theorem tPut_rn {v : Nat} : tr (tPut T k a) (tn T) v = false := by
  unfold tr; rw [tPut_mn]; rfl
theorem tPut_ch (h : tCh T) (hn : tn T < 8) (ha : (tn T = 0 ∧ a = 8) ∨ a < tn T) : tCh (tPut T k a) := by
  refine ⟨by rw [tPut_n]; omega, fun l hl => ?_⟩
  rw [tPut_n] at hl
  by_cases e : l = tn T
  · subst e; rw [tPut_an]; omega
  · rw [← tPut_a (k := k) (a := a) (show l < tn T by omega)]; exact h.2 l (by omega)
theorem tPut_W (h : tW T) (hn : tn T < 8) (hk : k ≤ 2) (ha : (tn T = 0 ∧ a = 8) ∨ a < tn T) : tW (tPut T k a) := by
  refine ⟨tPut_ch h.1 hn ha, fun l hl => ?_⟩
  rw [tPut_n] at hl
  by_cases e : l = tn T
  · subst e
    rw [tPut_mn, tPut_kn]
    exact ⟨hk, by omega, fun i hi => by omega, fun q => by omega⟩
  · have hl' : l < tn T := by omega
    rw [tPut_m hl', tPut_k hl']
    obtain ⟨h1, h2, h3, h4⟩ := h.2 l hl'
    exact ⟨h1, h2, fun i hi => by rw [tPut_b h.1 hl']; exact h3 i hi, h4⟩
end PUT
section USE
variable {T : xT} {v : Nat}
theorem tUse_m {l : Nat} (hl : l ≠ tn T - 1) : tm (tUse T v) l = tm T l := if_neg hl
theorem tUse_mn : tm (tUse T v) (tn T - 1) = tm T (tn T - 1) + 1 := if_pos rfl
theorem tUse_u {j : Nat} (hj : j ≠ 2 * (tn T - 1) + tm T (tn T - 1)) : tu (tUse T v) j = tu T j := if_neg hj
theorem tUse_un : tu (tUse T v) (2 * (tn T - 1) + tm T (tn T - 1)) = v := if_pos rfl
/-- the last line can use v, behind what it uses -/
def tCan (T : xT) (v : Nat) : Prop := 0 < tn T ∧ tb T (tn T - 1) v = true ∧ tm T (tn T - 1) < 2 ∧ tr T (tn T - 1) v = false
theorem tUse_W (h : tW T) (hc : tCan T v) : tW (tUse T v) := by
  obtain ⟨h0, hb, hm, hr⟩ := hc
  refine ⟨h.1, fun l hl => ?_⟩
  have hl' : l < tn T := hl
  obtain ⟨h1, h2, h3, h4⟩ := h.2 l hl'
  by_cases e : l = tn T - 1
  · subst e
    rw [tUse_mn]
    refine ⟨h1, by omega, fun i hi => ?_, fun q => ?_⟩
    · show tb T _ _ = true
      by_cases ei : i = tm T (tn T - 1)
      · subst ei; rw [tUse_un]; exact hb
      · rw [tUse_u (by omega)]; exact h3 i (by omega)
    · have hm1 : tm T (tn T - 1) = 1 := by omega
      have e1 : tu (tUse T v) (2 * (tn T - 1) + 1) = v := by
        have := tUse_un (T := T) (v := v)
        rw [hm1] at this
        exact this
      rw [e1, tUse_u (by omega)]
      intro q
      have : tr T (tn T - 1) v = true := (tr_iff (by omega)).mpr ⟨0, by omega, q⟩
      rw [this] at hr; cases hr
  · rw [tUse_m e]
    refine ⟨h1, h2, fun i hi => ?_, fun q => ?_⟩
    · show tb T _ _ = true
      rw [tUse_u (by omega)]; exact h3 i hi
    · rw [tUse_u (by omega), tUse_u (by omega)]; exact h4 q
theorem tUse_r {l q : Nat} (hl : l ≠ tn T - 1) (hl' : l < tn T) (hm : tm T l ≤ 2) : tr (tUse T v) l q = tr T l q := by
  unfold tr
  rw [tUse_m hl]
  by_cases h0 : 0 < tm T l
  · rw [tUse_u (j := 2 * l) (by omega)]
    by_cases h1 : 1 < tm T l
    · rw [tUse_u (j := 2 * l + 1) (by omega)]
    · rw [decide_eq_false h1, Bool.false_and, Bool.false_and]
  · rw [decide_eq_false h0, decide_eq_false (show ¬ 1 < tm T l by omega)]; rfl
theorem tUse_rn {q : Nat} (hm : tm T (tn T - 1) < 2) : tr (tUse T v) (tn T - 1) q = (tr T (tn T - 1) q || decide (v = q)) := by
  have hx : tr (tUse T v) (tn T - 1) q = true ↔ tr T (tn T - 1) q = true ∨ v = q := by
    rw [tr_iff (by rw [tUse_mn]; omega), tr_iff (by omega), tUse_mn]
    constructor
    · rintro ⟨j, a, b⟩
      by_cases e : j = tm T (tn T - 1)
      · subst e; rw [tUse_un] at b; exact Or.inr b
      · rw [tUse_u (by omega)] at b; exact Or.inl ⟨j, by omega, b⟩
    · rintro (⟨j, a, b⟩ | b)
      · exact ⟨j, by omega, by rw [tUse_u (by omega)]; exact b⟩
      · exact ⟨tm T (tn T - 1), by omega, by rw [tUse_un]; exact b⟩
  cases h1 : tr T (tn T - 1) q with
  | true => rw [Bool.true_or]; exact hx.mpr (Or.inl h1)
  | false =>
    rw [Bool.false_or]
    by_cases e : v = q
    · rw [decide_eq_true e]; exact hx.mpr (Or.inr e)
    · rw [decide_eq_false e]
      apply Bool.eq_false_iff.mpr
      intro r
      rcases hx.mp r with r | r
      · rw [h1] at r; cases r
      · exact e r
end USE
section REU
variable {T : xT} {l i v : Nat}
theorem tReu_u {j : Nat} (hj : j ≠ 2 * l + i) : tu (tReu T l i v) j = tu T j := if_neg hj
theorem tReu_un : tu (tReu T l i v) (2 * l + i) = v := if_pos rfl
theorem tReu_W (h : tW T) (hl : l < tn T) (hi : i < tm T l) (hb : tb T l v = true) (hne : tm T l = 2 → tu T (2 * l + (1 - i)) ≠ v) : tW (tReu T l i v) := by
  have hml := (h.2 l hl).2.1
  refine ⟨h.1, fun m hm => ?_⟩
  have hm' : m < tn T := hm
  obtain ⟨h1, h2, h3, h4⟩ := h.2 m hm'
  refine ⟨h1, h2, fun j hj => ?_, fun q => ?_⟩
  · show tb T m _ = true
    have hj' : j < tm T m := hj
    by_cases e : m = l
    · subst e
      by_cases ej : j = i
      · subst ej; rw [tReu_un]; exact hb
      · rw [tReu_u (by omega)]; exact h3 j hj'
    · rw [tReu_u (by omega)]; exact h3 j hj'
  · have q' : tm T m = 2 := q
    by_cases e : m = l
    · subst e
      have hi2 : i < 2 := by omega
      have hn := hne q'
      rcases (show i = 0 ∨ i = 1 by omega) with rfl | rfl
      · have e0 : tu (tReu T m 0 v) (2 * m) = v := tReu_un
        rw [e0, tReu_u (by omega)]
        exact fun r => hn r.symm
      · rw [tReu_un, tReu_u (by omega)]
        exact hn
    · rw [tReu_u (by omega), tReu_u (by omega)]; exact h4 q'
theorem tReu_r {m q : Nat} (hm : m ≠ l) (hi : i < 2) : tr (tReu T l i v) m q = tr T m q := by
  unfold tr
  rw [tReu_u (j := 2 * m) (by omega), tReu_u (j := 2 * m + 1) (by omega)]; rfl
end REU
theorem tCut_W {T : xT} (h : tW T) : tW (tCut T) := by
  have e : tn (tCut T) = tn T - 1 := rfl
  refine ⟨⟨by rw [e]; have := h.1.1; omega, fun l hl => h.1.2 l (by rw [e] at hl; omega)⟩, fun l hl => h.2 l (by rw [e] at hl; omega)⟩
/-- only the cells of tree t change -/
def fT (t : Nat) (w w' : xWd) : Prop := ∀ b, b ≠ t → (b < 32 * t + 1 ∨ 32 * t + 8 < b) → w' b = w b
theorem z_a0 (n : Nat) : nI n + 0 = nI n := Int32.add_zero _
theorem G_Tr_takeLast_0 {d : Nat} {a0 : Nat} {w : xWd} {Q : xMV → xWd → Prop} (h : ((w a0 8 ≤ 0 → Q xU w) ∧ (¬ (w a0 8 ≤ 0) → (∀ w1 : xWd, w1 = x_set w a0 8 ((w a0 8) - 1) → Q xU w1)))) : xWp d m_Tr_takeLast 0 [xA 5 a0] [] w Q := by
  refine x_goN 3 (pc' := if w a0 8 ≤ 0 then 17 else 7) (ls' := [xA 5 a0]) (st' := []) (w' := w) rfl ?_
  refine x_br (fun c1 => ?_) (fun c1 => ?_)
  · skip
    exact x_ret (P := True) rfl trivial (h.1 c1)
  · skip
    refine x_goN 5 (pc' := 14) (ls' := [xA 5 a0]) (st' := [xI ((w a0 8) - 1), xA 5 a0]) (w' := w) rfl ?_
    refine x_goW (pc' := 17) (ls' := [xA 5 a0]) (st' := []) (w' := x_set w a0 8 ((w a0 8) - 1)) rfl (fun w1 ew1 => ?_)
    exact x_ret (P := True) rfl trivial ((h.2 c1) w1 ew1)
theorem S_Tr_takeLast {d t : Nat} {T : xT} {w : xWd} {Q : xMV → xWd → Prop} (hR : tR w t T) (h0 : 0 < tn T) (h : ∀ w', tR w' t (tCut T) → fT t w w' → Q xU w') : xWp d m_Tr_takeLast 0 [xA 5 t] [] w Q := by
  have h8 := tR_n8 hR
  refine G_Tr_takeLast_0 ⟨fun c => ?_, fun _ w1 e1 => h w1 ⟨⟨?_, fun l hl => ?_⟩, tCut_W hR.2⟩ ?_⟩
  · rw [hR.1.1] at c
    have := (z_le (b := 0) (by omega) (by decide)).mp c
    omega
  · subst e1
    rw [x_set_s, upd_s, hR.1.1]
    exact pk_sub (b := 1) (by omega)
  · subst e1
    have e : tn (tCut T) = tn T - 1 := rfl
    simp (disch := omega) only [x_set_o]
    exact hR.1.2 l (by omega)
  · subst e1
    intro b hb _
    exact x_set_o hb
theorem G_Tr_becomeLike_0 {d : Nat} {a0 : Nat} {a1 : Nat} {w : xWd} {Q : xMV → xWd → Prop} (h : (∀ w1 : xWd, w1 = x_set w a0 8 (w a1 8) → (∀ w2 : xWd, w2 = x_put w1 (32 * a0 + 1) (va_cpy (w1 (32 * a1 + 1)) (w1 (32 * a0 + 1)) 0 0 8) → (∀ w3 : xWd, w3 = x_put w2 (32 * a0 + 2) (va_cpy (w2 (32 * a1 + 2)) (w2 (32 * a0 + 2)) 0 0 8) → (∀ w4 : xWd, w4 = x_put w3 (32 * a0 + 3) (va_cpy (w3 (32 * a1 + 3)) (w3 (32 * a0 + 3)) 0 0 8) → (∀ w5 : xWd, w5 = x_put w4 (32 * a0 + 4) (va_cpy (w4 (32 * a1 + 4)) (w4 (32 * a0 + 4)) 0 0 8) → (∀ w6 : xWd, w6 = x_put w5 (32 * a0 + 5) (va_cpy (w5 (32 * a1 + 5)) (w5 (32 * a0 + 5)) 0 0 8) → (∀ w7 : xWd, w7 = x_put w6 (32 * a0 + 6) (va_cpy (w6 (32 * a1 + 6)) (w6 (32 * a0 + 6)) 0 0 16) → (∀ w8 : xWd, w8 = x_put w7 (32 * a0 + 7) (va_cpy (w7 (32 * a1 + 7)) (w7 (32 * a0 + 7)) 0 0 8) → Q xU w8))))))))) : xWp (d + 1) m_Tr_becomeLike 0 [xA 5 a0, xA 5 a1] [] w Q := by
  refine x_goN 3 (pc' := 5) (ls' := [xA 5 a0, xA 5 a1]) (st' := [xI (w a1 8), xA 5 a0]) (w' := w) rfl ?_
  refine x_goW (pc' := 8) (ls' := [xA 5 a0, xA 5 a1]) (st' := []) (w' := x_set w a0 8 (w a1 8)) rfl (fun w1 ew1 => ?_)
  refine x_goN 7 (pc' := 20) (ls' := [xA 5 a0, xA 5 a1]) (st' := [xI 8, xI 0, xA 108 (32 * a0 + 1), xI 0, xA 108 (32 * a1 + 1)]) (w' := w1) rfl ?_
  refine x_obW (P := 1 ≤ (d + 1) ∧ 100 ≤ 108 ∧ 100 ≤ 108 ∧ ¬ (0 : Int32) < 0 ∧ ¬ (0 : Int32) < 0 ∧ ¬ (8 : Int32) < 0 ∧ 0 + 8 ≤ 8 ∧ 0 + 8 ≤ 8) (pc' := 23) (ls' := [xA 5 a0, xA 5 a1]) (st' := []) (w' := x_put w1 (32 * a0 + 1) (va_cpy (w1 (32 * a1 + 1)) (w1 (32 * a0 + 1)) 0 0 8)) rfl ⟨Nat.succ_le_succ (Nat.zero_le _), by decide, by decide, by decide⟩ (fun w2 ew2 => ?_)
  refine x_goN 7 (pc' := 35) (ls' := [xA 5 a0, xA 5 a1]) (st' := [xI 8, xI 0, xA 108 (32 * a0 + 2), xI 0, xA 108 (32 * a1 + 2)]) (w' := w2) rfl ?_
  refine x_obW (P := 1 ≤ (d + 1) ∧ 100 ≤ 108 ∧ 100 ≤ 108 ∧ ¬ (0 : Int32) < 0 ∧ ¬ (0 : Int32) < 0 ∧ ¬ (8 : Int32) < 0 ∧ 0 + 8 ≤ 8 ∧ 0 + 8 ≤ 8) (pc' := 38) (ls' := [xA 5 a0, xA 5 a1]) (st' := []) (w' := x_put w2 (32 * a0 + 2) (va_cpy (w2 (32 * a1 + 2)) (w2 (32 * a0 + 2)) 0 0 8)) rfl ⟨Nat.succ_le_succ (Nat.zero_le _), by decide, by decide, by decide⟩ (fun w3 ew3 => ?_)
  refine x_goN 7 (pc' := 50) (ls' := [xA 5 a0, xA 5 a1]) (st' := [xI 8, xI 0, xA 108 (32 * a0 + 3), xI 0, xA 108 (32 * a1 + 3)]) (w' := w3) rfl ?_
  refine x_obW (P := 1 ≤ (d + 1) ∧ 100 ≤ 108 ∧ 100 ≤ 108 ∧ ¬ (0 : Int32) < 0 ∧ ¬ (0 : Int32) < 0 ∧ ¬ (8 : Int32) < 0 ∧ 0 + 8 ≤ 8 ∧ 0 + 8 ≤ 8) (pc' := 53) (ls' := [xA 5 a0, xA 5 a1]) (st' := []) (w' := x_put w3 (32 * a0 + 3) (va_cpy (w3 (32 * a1 + 3)) (w3 (32 * a0 + 3)) 0 0 8)) rfl ⟨Nat.succ_le_succ (Nat.zero_le _), by decide, by decide, by decide⟩ (fun w4 ew4 => ?_)
  refine x_goN 7 (pc' := 65) (ls' := [xA 5 a0, xA 5 a1]) (st' := [xI 8, xI 0, xA 108 (32 * a0 + 4), xI 0, xA 108 (32 * a1 + 4)]) (w' := w4) rfl ?_
  refine x_obW (P := 1 ≤ (d + 1) ∧ 100 ≤ 108 ∧ 100 ≤ 108 ∧ ¬ (0 : Int32) < 0 ∧ ¬ (0 : Int32) < 0 ∧ ¬ (8 : Int32) < 0 ∧ 0 + 8 ≤ 8 ∧ 0 + 8 ≤ 8) (pc' := 68) (ls' := [xA 5 a0, xA 5 a1]) (st' := []) (w' := x_put w4 (32 * a0 + 4) (va_cpy (w4 (32 * a1 + 4)) (w4 (32 * a0 + 4)) 0 0 8)) rfl ⟨Nat.succ_le_succ (Nat.zero_le _), by decide, by decide, by decide⟩ (fun w5 ew5 => ?_)
  refine x_goN 7 (pc' := 80) (ls' := [xA 5 a0, xA 5 a1]) (st' := [xI 8, xI 0, xA 108 (32 * a0 + 5), xI 0, xA 108 (32 * a1 + 5)]) (w' := w5) rfl ?_
  refine x_obW (P := 1 ≤ (d + 1) ∧ 100 ≤ 108 ∧ 100 ≤ 108 ∧ ¬ (0 : Int32) < 0 ∧ ¬ (0 : Int32) < 0 ∧ ¬ (8 : Int32) < 0 ∧ 0 + 8 ≤ 8 ∧ 0 + 8 ≤ 8) (pc' := 83) (ls' := [xA 5 a0, xA 5 a1]) (st' := []) (w' := x_put w5 (32 * a0 + 5) (va_cpy (w5 (32 * a1 + 5)) (w5 (32 * a0 + 5)) 0 0 8)) rfl ⟨Nat.succ_le_succ (Nat.zero_le _), by decide, by decide, by decide⟩ (fun w6 ew6 => ?_)
  refine x_goN 7 (pc' := 95) (ls' := [xA 5 a0, xA 5 a1]) (st' := [xI 16, xI 0, xA 116 (32 * a0 + 6), xI 0, xA 116 (32 * a1 + 6)]) (w' := w6) rfl ?_
  refine x_obW (P := 1 ≤ (d + 1) ∧ 100 ≤ 116 ∧ 100 ≤ 116 ∧ ¬ (0 : Int32) < 0 ∧ ¬ (0 : Int32) < 0 ∧ ¬ (16 : Int32) < 0 ∧ 0 + 16 ≤ 16 ∧ 0 + 16 ≤ 16) (pc' := 98) (ls' := [xA 5 a0, xA 5 a1]) (st' := []) (w' := x_put w6 (32 * a0 + 6) (va_cpy (w6 (32 * a1 + 6)) (w6 (32 * a0 + 6)) 0 0 16)) rfl ⟨Nat.succ_le_succ (Nat.zero_le _), by decide, by decide, by decide⟩ (fun w7 ew7 => ?_)
  refine x_goN 7 (pc' := 110) (ls' := [xA 5 a0, xA 5 a1]) (st' := [xI 8, xI 0, xA 108 (32 * a0 + 7), xI 0, xA 108 (32 * a1 + 7)]) (w' := w7) rfl ?_
  refine x_obW (P := 1 ≤ (d + 1) ∧ 100 ≤ 108 ∧ 100 ≤ 108 ∧ ¬ (0 : Int32) < 0 ∧ ¬ (0 : Int32) < 0 ∧ ¬ (8 : Int32) < 0 ∧ 0 + 8 ≤ 8 ∧ 0 + 8 ≤ 8) (pc' := 113) (ls' := [xA 5 a0, xA 5 a1]) (st' := []) (w' := x_put w7 (32 * a0 + 7) (va_cpy (w7 (32 * a1 + 7)) (w7 (32 * a0 + 7)) 0 0 8)) rfl ⟨Nat.succ_le_succ (Nat.zero_le _), by decide, by decide, by decide⟩ (fun w8 ew8 => ?_)
  exact x_ret (P := True) rfl trivial ((((((((h w1 ew1) w2 ew2) w3 ew3) w4 ew4) w5 ew5) w6 ew6) w7 ew7) w8 ew8)
theorem S_Tr_becomeLike {d t t2 : Nat} {T : xT} {w : xWd} {Q : xMV → xWd → Prop} (ht : 30 < t ∧ t < 40) (ht2 : 30 < t2 ∧ t2 < 40) (hne : t ≠ t2) (hR : tR w t2 T) (h : ∀ w', tR w' t T → fT t w w' → Q xU w') : xWp (d + 1) m_Tr_becomeLike 0 [xA 5 t, xA 5 t2] [] w Q := by
  have h8 := tR_n8 hR
  refine G_Tr_becomeLike_0 (fun w1 e1 w2 e2 w3 e3 w4 e4 w5 e5 w6 e6 w7 e7 w8 e8 => h w8 ⟨⟨?_, fun l hl => ?_⟩, hR.2⟩ ?_)
  · subst e8; subst e7; subst e6; subst e5; subst e4; subst e3; subst e2; subst e1
    simp (disch := omega) only [x_put_o]
    rw [x_set_s, upd_s]
    exact hR.1.1
  · obtain ⟨f1, f2, f3, f4, f5, f6, f7⟩ := hR.1.2 l hl
    have hm := tR_m2 hR hl
    have g1 : w8 (32 * t + 1) = va_cpy (w (32 * t2 + 1)) (w (32 * t + 1)) 0 0 8 := by
      subst e8; subst e7; subst e6; subst e5; subst e4; subst e3; subst e2; subst e1
      simp (disch := omega) only [x_put_o, x_put_self, x_set_o]
    have g2 : w8 (32 * t + 2) = va_cpy (w (32 * t2 + 2)) (w (32 * t + 2)) 0 0 8 := by
      subst e8; subst e7; subst e6; subst e5; subst e4; subst e3; subst e2; subst e1
      simp (disch := omega) only [x_put_o, x_put_self, x_set_o]
    have g3 : w8 (32 * t + 3) = va_cpy (w (32 * t2 + 3)) (w (32 * t + 3)) 0 0 8 := by
      subst e8; subst e7; subst e6; subst e5; subst e4; subst e3; subst e2; subst e1
      simp (disch := omega) only [x_put_o, x_put_self, x_set_o]
    have g4 : w8 (32 * t + 4) = va_cpy (w (32 * t2 + 4)) (w (32 * t + 4)) 0 0 8 := by
      subst e8; subst e7; subst e6; subst e5; subst e4; subst e3; subst e2; subst e1
      simp (disch := omega) only [x_put_o, x_put_self, x_set_o]
    have g5 : w8 (32 * t + 5) = va_cpy (w (32 * t2 + 5)) (w (32 * t + 5)) 0 0 8 := by
      subst e8; subst e7; subst e6; subst e5; subst e4; subst e3; subst e2; subst e1
      simp (disch := omega) only [x_put_o, x_put_self, x_set_o]
    have g6 : w8 (32 * t + 6) = va_cpy (w (32 * t2 + 6)) (w (32 * t + 6)) 0 0 16 := by
      subst e8; subst e7; subst e6; subst e5; subst e4; subst e3; subst e2; subst e1
      simp (disch := omega) only [x_put_o, x_put_self, x_set_o]
    have g7 : w8 (32 * t + 7) = va_cpy (w (32 * t2 + 7)) (w (32 * t + 7)) 0 0 8 := by
      subst e8; subst e7; subst e6; subst e5; subst e4; subst e3; subst e2; subst e1
      simp (disch := omega) only [x_put_o, x_put_self, x_set_o]
    rw [g1, g2, g3, g4, g5, g6, g7, sb_cpy0 (show l < 8 by omega), sb_cpy0 (show l < 8 by omega), sb_cpy0 (show l < 8 by omega), sb_cpy0 (show l < 8 by omega), sb_cpy0 (show l < 8 by omega), sb_cpy0 (show l < 8 by omega)]
    exact ⟨f1, f2, f3, f4, f5, fun i hi => by rw [sb_cpy0 (show 2 * l + i < 16 by omega)]; exact f6 i hi, f7⟩
  · subst e8; subst e7; subst e6; subst e5; subst e4; subst e3; subst e2; subst e1
    intro b hb hb2
    simp (disch := omega) only [x_put_o, x_set_o]
theorem G_Tr_putOn_0 {d : Nat} {a0 : Nat} {x1 : Int32} {x2 : Int32} {w : xWd} {Q : xMV → xWd → Prop} (h : ((w a0 8 < 8 → ((p_lt x2 (w a0 8) → (vp_in (w a0 8) 8 ∧ ∀ w1 : xWd, w1 = x_set w (32 * a0 + 1) ((w a0 8).toNatClampNeg) x1 → (vp_in (w1 a0 8) 8 ∧ ∀ w2 : xWd, w2 = x_set w1 (32 * a0 + 2) ((w1 a0 8).toNatClampNeg) x2 → (vp_in x2 8 ∧ (vp_in (w2 a0 8) 8 ∧ ∀ w3 : xWd, w3 = x_set w2 (32 * a0 + 3) ((w2 a0 8).toNatClampNeg) ((w2 (32 * a0 + 3) x2.toNatClampNeg) ||| ((1 : Int32) <<< (x2 &&& 31))) → (vp_in x2 8 ∧ (vp_in (w3 a0 8) 8 ∧ ∀ w4 : xWd, w4 = x_set w3 (32 * a0 + 4) ((w3 a0 8).toNatClampNeg) ((w3 (32 * a0 + 4) x2.toNatClampNeg) + 1) → (vp_in (w4 a0 8) 8 ∧ ∀ w5 : xWd, w5 = x_set w4 (32 * a0 + 5) ((w4 a0 8).toNatClampNeg) 0 → (vp_in (w5 a0 8) 8 ∧ ∀ w6 : xWd, w6 = x_set w5 (32 * a0 + 7) ((w5 a0 8).toNatClampNeg) 0 → (∀ w7 : xWd, w7 = x_set w6 a0 8 ((w6 a0 8) + 1) → Q xU w7)))))))))) ∧ (¬ (p_lt x2 (w a0 8)) → (vp_in (w a0 8) 8 ∧ ∀ w8 : xWd, w8 = x_set w (32 * a0 + 1) ((w a0 8).toNatClampNeg) x1 → (vp_in (w8 a0 8) 8 ∧ ∀ w9 : xWd, w9 = x_set w8 (32 * a0 + 2) ((w8 a0 8).toNatClampNeg) 8 → (vp_in (w9 a0 8) 8 ∧ ∀ w10 : xWd, w10 = x_set w9 (32 * a0 + 3) ((w9 a0 8).toNatClampNeg) 0 → (vp_in (w10 a0 8) 8 ∧ ∀ w11 : xWd, w11 = x_set w10 (32 * a0 + 4) ((w10 a0 8).toNatClampNeg) 0 → (vp_in (w11 a0 8) 8 ∧ ∀ w12 : xWd, w12 = x_set w11 (32 * a0 + 5) ((w11 a0 8).toNatClampNeg) 0 → (vp_in (w12 a0 8) 8 ∧ ∀ w13 : xWd, w13 = x_set w12 (32 * a0 + 7) ((w12 a0 8).toNatClampNeg) 0 → (∀ w14 : xWd, w14 = x_set w13 a0 8 ((w13 a0 8) + 1) → Q xU w14)))))))))) ∧ (¬ (w a0 8 < 8) → Q xU w))) : xWp (d + 1) m_Tr_putOn 0 [xA 5 a0, xI x1, xI x2, xU] [] w Q := by
  refine x_goN 4 (pc' := if w a0 8 < 8 then 10 else 9) (ls' := [xA 5 a0, xI x1, xI x2, xU]) (st' := []) (w' := w) rfl ?_
  refine x_br (fun c1 => ?_) (fun c1 => ?_)
  · skip
    refine x_goN 2 (pc' := 12) (ls' := [xA 5 a0, xI x1, xI x2, xU]) (st' := [xI x2, xA 5 a0]) (w' := w) rfl ?_
    refine x_call (y := m_Tr_isLine) (as := [xA 5 a0, xI x2]) (rst := []) rfl [xA 5 a0, xI x2] rfl ?_
    refine S_Tr_isLine (fun c2 => ?_) (fun c2 => ?_)
    · skip
      refine x_goN 1 (pc' := if (1 : Int32) = (0 : Int32) then 18 else 22) (ls' := [xA 5 a0, xI x1, xI x2, xU]) (st' := []) (w' := w) rfl ?_
      refine x_brF (by decide) ?_
      refine x_goN 7 (pc' := 33) (ls' := [xA 5 a0, xI x1, xI x2, xI 0]) (st' := [xI x1, xI (w a0 8), xA 108 (32 * a0 + 1)]) (w' := w) rfl ?_
      refine x_obW (P := vp_in (w a0 8) 8) (pc' := 34) (ls' := [xA 5 a0, xI x1, xI x2, xI 0]) (st' := []) (w' := x_set w (32 * a0 + 1) ((w a0 8).toNatClampNeg) x1) rfl ((h.1 c1).1 c2).1 (fun w1 ew1 => ?_)
      refine x_goN 6 (pc' := if (0 : Int32) = (0 : Int32) then 51 else 46) (ls' := [xA 5 a0, xI x1, xI x2, xI 0]) (st' := [xI (w1 a0 8), xA 108 (32 * a0 + 2)]) (w' := w1) rfl ?_
      refine x_brT (by decide) ?_
      refine x_goN 1 (pc' := 52) (ls' := [xA 5 a0, xI x1, xI x2, xI 0]) (st' := [xI x2, xI (w1 a0 8), xA 108 (32 * a0 + 2)]) (w' := w1) rfl ?_
      refine x_obW (P := vp_in (w1 a0 8) 8) (pc' := 53) (ls' := [xA 5 a0, xI x1, xI x2, xI 0]) (st' := []) (w' := x_set w1 (32 * a0 + 2) ((w1 a0 8).toNatClampNeg) x2) rfl (((h.1 c1).1 c2).2 w1 ew1).1 (fun w2 ew2 => ?_)
      refine x_goN 6 (pc' := if (0 : Int32) = (0 : Int32) then 69 else 65) (ls' := [xA 5 a0, xI x1, xI x2, xI 0]) (st' := [xI (w2 a0 8), xA 108 (32 * a0 + 3)]) (w' := w2) rfl ?_
      refine x_brT (by decide) ?_
      refine x_goN 3 (pc' := 74) (ls' := [xA 5 a0, xI x1, xI x2, xI 0]) (st' := [xI x2, xA 108 (32 * a0 + 3), xI (w2 a0 8), xA 108 (32 * a0 + 3)]) (w' := w2) rfl ?_
      refine x_ob (P := vp_in x2 8) (pc' := 75) (ls' := [xA 5 a0, xI x1, xI x2, xI 0]) (st' := [xI (w2 (32 * a0 + 3) x2.toNatClampNeg), xI (w2 a0 8), xA 108 (32 * a0 + 3)]) (w' := w2) rfl ((((h.1 c1).1 c2).2 w1 ew1).2 w2 ew2).1 ?_
      refine x_goN 4 (pc' := 79) (ls' := [xA 5 a0, xI x1, xI x2, xI 0]) (st' := [xI ((w2 (32 * a0 + 3) x2.toNatClampNeg) ||| ((1 : Int32) <<< (x2 &&& 31))), xI (w2 a0 8), xA 108 (32 * a0 + 3)]) (w' := w2) rfl ?_
      refine x_obW (P := vp_in (w2 a0 8) 8) (pc' := 80) (ls' := [xA 5 a0, xI x1, xI x2, xI 0]) (st' := []) (w' := x_set w2 (32 * a0 + 3) ((w2 a0 8).toNatClampNeg) ((w2 (32 * a0 + 3) x2.toNatClampNeg) ||| ((1 : Int32) <<< (x2 &&& 31)))) rfl ((((h.1 c1).1 c2).2 w1 ew1).2 w2 ew2).2.1 (fun w3 ew3 => ?_)
      refine x_goN 6 (pc' := if (0 : Int32) = (0 : Int32) then 96 else 92) (ls' := [xA 5 a0, xI x1, xI x2, xI 0]) (st' := [xI (w3 a0 8), xA 108 (32 * a0 + 4)]) (w' := w3) rfl ?_
      refine x_brT (by decide) ?_
      refine x_goN 3 (pc' := 101) (ls' := [xA 5 a0, xI x1, xI x2, xI 0]) (st' := [xI x2, xA 108 (32 * a0 + 4), xI (w3 a0 8), xA 108 (32 * a0 + 4)]) (w' := w3) rfl ?_
      refine x_ob (P := vp_in x2 8) (pc' := 102) (ls' := [xA 5 a0, xI x1, xI x2, xI 0]) (st' := [xI (w3 (32 * a0 + 4) x2.toNatClampNeg), xI (w3 a0 8), xA 108 (32 * a0 + 4)]) (w' := w3) rfl (((((h.1 c1).1 c2).2 w1 ew1).2 w2 ew2).2.2 w3 ew3).1 ?_
      refine x_goN 2 (pc' := 104) (ls' := [xA 5 a0, xI x1, xI x2, xI 0]) (st' := [xI ((w3 (32 * a0 + 4) x2.toNatClampNeg) + 1), xI (w3 a0 8), xA 108 (32 * a0 + 4)]) (w' := w3) rfl ?_
      refine x_obW (P := vp_in (w3 a0 8) 8) (pc' := 105) (ls' := [xA 5 a0, xI x1, xI x2, xI 0]) (st' := []) (w' := x_set w3 (32 * a0 + 4) ((w3 a0 8).toNatClampNeg) ((w3 (32 * a0 + 4) x2.toNatClampNeg) + 1)) rfl (((((h.1 c1).1 c2).2 w1 ew1).2 w2 ew2).2.2 w3 ew3).2.1 (fun w4 ew4 => ?_)
      refine x_goN 5 (pc' := 114) (ls' := [xA 5 a0, xI x1, xI x2, xI 0]) (st' := [xI 0, xI (w4 a0 8), xA 108 (32 * a0 + 5)]) (w' := w4) rfl ?_
      refine x_obW (P := vp_in (w4 a0 8) 8) (pc' := 115) (ls' := [xA 5 a0, xI x1, xI x2, xI 0]) (st' := []) (w' := x_set w4 (32 * a0 + 5) ((w4 a0 8).toNatClampNeg) 0) rfl ((((((h.1 c1).1 c2).2 w1 ew1).2 w2 ew2).2.2 w3 ew3).2.2 w4 ew4).1 (fun w5 ew5 => ?_)
      refine x_goN 5 (pc' := 124) (ls' := [xA 5 a0, xI x1, xI x2, xI 0]) (st' := [xI 0, xI (w5 a0 8), xA 108 (32 * a0 + 7)]) (w' := w5) rfl ?_
      refine x_obW (P := vp_in (w5 a0 8) 8) (pc' := 125) (ls' := [xA 5 a0, xI x1, xI x2, xI 0]) (st' := []) (w' := x_set w5 (32 * a0 + 7) ((w5 a0 8).toNatClampNeg) 0) rfl (((((((h.1 c1).1 c2).2 w1 ew1).2 w2 ew2).2.2 w3 ew3).2.2 w4 ew4).2 w5 ew5).1 (fun w6 ew6 => ?_)
      refine x_goN 5 (pc' := 132) (ls' := [xA 5 a0, xI x1, xI x2, xI 0]) (st' := [xI ((w6 a0 8) + 1), xA 5 a0]) (w' := w6) rfl ?_
      refine x_goW (pc' := 135) (ls' := [xA 5 a0, xI x1, xI x2, xI 0]) (st' := []) (w' := x_set w6 a0 8 ((w6 a0 8) + 1)) rfl (fun w7 ew7 => ?_)
      exact x_ret (P := True) rfl trivial (((((((((h.1 c1).1 c2).2 w1 ew1).2 w2 ew2).2.2 w3 ew3).2.2 w4 ew4).2 w5 ew5).2 w6 ew6) w7 ew7)
    · skip
      refine x_goN 1 (pc' := if (0 : Int32) = (0 : Int32) then 18 else 22) (ls' := [xA 5 a0, xI x1, xI x2, xU]) (st' := []) (w' := w) rfl ?_
      refine x_brT (by decide) ?_
      refine x_goN 8 (pc' := 33) (ls' := [xA 5 a0, xI x1, xI x2, xI 1]) (st' := [xI x1, xI (w a0 8), xA 108 (32 * a0 + 1)]) (w' := w) rfl ?_
      refine x_obW (P := vp_in (w a0 8) 8) (pc' := 34) (ls' := [xA 5 a0, xI x1, xI x2, xI 1]) (st' := []) (w' := x_set w (32 * a0 + 1) ((w a0 8).toNatClampNeg) x1) rfl ((h.1 c1).2 c2).1 (fun w8 ew8 => ?_)
      refine x_goN 6 (pc' := if (1 : Int32) = (0 : Int32) then 51 else 46) (ls' := [xA 5 a0, xI x1, xI x2, xI 1]) (st' := [xI (w8 a0 8), xA 108 (32 * a0 + 2)]) (w' := w8) rfl ?_
      refine x_brF (by decide) ?_
      refine x_goN 2 (pc' := 52) (ls' := [xA 5 a0, xI x1, xI x2, xI 1]) (st' := [xI 8, xI (w8 a0 8), xA 108 (32 * a0 + 2)]) (w' := w8) rfl ?_
      refine x_obW (P := vp_in (w8 a0 8) 8) (pc' := 53) (ls' := [xA 5 a0, xI x1, xI x2, xI 1]) (st' := []) (w' := x_set w8 (32 * a0 + 2) ((w8 a0 8).toNatClampNeg) 8) rfl (((h.1 c1).2 c2).2 w8 ew8).1 (fun w9 ew9 => ?_)
      refine x_goN 6 (pc' := if (1 : Int32) = (0 : Int32) then 69 else 65) (ls' := [xA 5 a0, xI x1, xI x2, xI 1]) (st' := [xI (w9 a0 8), xA 108 (32 * a0 + 3)]) (w' := w9) rfl ?_
      refine x_brF (by decide) ?_
      refine x_goN 2 (pc' := 79) (ls' := [xA 5 a0, xI x1, xI x2, xI 1]) (st' := [xI 0, xI (w9 a0 8), xA 108 (32 * a0 + 3)]) (w' := w9) rfl ?_
      refine x_obW (P := vp_in (w9 a0 8) 8) (pc' := 80) (ls' := [xA 5 a0, xI x1, xI x2, xI 1]) (st' := []) (w' := x_set w9 (32 * a0 + 3) ((w9 a0 8).toNatClampNeg) 0) rfl ((((h.1 c1).2 c2).2 w8 ew8).2 w9 ew9).1 (fun w10 ew10 => ?_)
      refine x_goN 6 (pc' := if (1 : Int32) = (0 : Int32) then 96 else 92) (ls' := [xA 5 a0, xI x1, xI x2, xI 1]) (st' := [xI (w10 a0 8), xA 108 (32 * a0 + 4)]) (w' := w10) rfl ?_
      refine x_brF (by decide) ?_
      refine x_goN 2 (pc' := 104) (ls' := [xA 5 a0, xI x1, xI x2, xI 1]) (st' := [xI 0, xI (w10 a0 8), xA 108 (32 * a0 + 4)]) (w' := w10) rfl ?_
      refine x_obW (P := vp_in (w10 a0 8) 8) (pc' := 105) (ls' := [xA 5 a0, xI x1, xI x2, xI 1]) (st' := []) (w' := x_set w10 (32 * a0 + 4) ((w10 a0 8).toNatClampNeg) 0) rfl (((((h.1 c1).2 c2).2 w8 ew8).2 w9 ew9).2 w10 ew10).1 (fun w11 ew11 => ?_)
      refine x_goN 5 (pc' := 114) (ls' := [xA 5 a0, xI x1, xI x2, xI 1]) (st' := [xI 0, xI (w11 a0 8), xA 108 (32 * a0 + 5)]) (w' := w11) rfl ?_
      refine x_obW (P := vp_in (w11 a0 8) 8) (pc' := 115) (ls' := [xA 5 a0, xI x1, xI x2, xI 1]) (st' := []) (w' := x_set w11 (32 * a0 + 5) ((w11 a0 8).toNatClampNeg) 0) rfl ((((((h.1 c1).2 c2).2 w8 ew8).2 w9 ew9).2 w10 ew10).2 w11 ew11).1 (fun w12 ew12 => ?_)
      refine x_goN 5 (pc' := 124) (ls' := [xA 5 a0, xI x1, xI x2, xI 1]) (st' := [xI 0, xI (w12 a0 8), xA 108 (32 * a0 + 7)]) (w' := w12) rfl ?_
      refine x_obW (P := vp_in (w12 a0 8) 8) (pc' := 125) (ls' := [xA 5 a0, xI x1, xI x2, xI 1]) (st' := []) (w' := x_set w12 (32 * a0 + 7) ((w12 a0 8).toNatClampNeg) 0) rfl (((((((h.1 c1).2 c2).2 w8 ew8).2 w9 ew9).2 w10 ew10).2 w11 ew11).2 w12 ew12).1 (fun w13 ew13 => ?_)
      refine x_goN 5 (pc' := 132) (ls' := [xA 5 a0, xI x1, xI x2, xI 1]) (st' := [xI ((w13 a0 8) + 1), xA 5 a0]) (w' := w13) rfl ?_
      refine x_goW (pc' := 135) (ls' := [xA 5 a0, xI x1, xI x2, xI 1]) (st' := []) (w' := x_set w13 a0 8 ((w13 a0 8) + 1)) rfl (fun w14 ew14 => ?_)
      exact x_ret (P := True) rfl trivial (((((((((h.1 c1).2 c2).2 w8 ew8).2 w9 ew9).2 w10 ew10).2 w11 ew11).2 w12 ew12).2 w13 ew13) w14 ew14)
  · skip
    exact x_ret (P := True) rfl trivial (h.2 c1)
theorem tO_put {T : xT} {k a : Nat} (h : tCh T) (hn : tn T < 8) (ha : a < tn T) : nI (tO T a) ||| nI (2 ^ a) = nI (tO (tPut T k a) (tn T)) := by
  have hch := tPut_ch (k := k) h hn (Or.inr ha)
  rw [fa_or]
  congr 1
  apply Nat.eq_of_testBit_eq
  intro i
  unfold tO
  rw [Nat.testBit_or, z_mk_tb, z_mk_tb, Nat.testBit_two_pow, tb_s hch (l := tn T) (by rw [tPut_n]; omega) (by omega), tPut_an, tPut_b h ha]
  by_cases hi : i < 8
  · rw [decide_eq_true hi, Bool.true_and, Bool.true_and, Bool.or_comm]
  · rw [decide_eq_false hi, Bool.false_and, Bool.false_and, Bool.false_or]
    exact decide_eq_false (by omega)
theorem tC_put {w w' : xWd} {t k a : Nat} {T : xT} (hR : tR w t T) (hn : tn T < 8) (hk : k ≤ 2) (ha : (tn T = 0 ∧ a = 8) ∨ a < tn T)
    (e0 : w' t 8 = nI (tn T + 1)) (e1 : w' (32 * t + 1) = upd (w (32 * t + 1)) (tn T) (nI k)) (e2 : w' (32 * t + 2) = upd (w (32 * t + 2)) (tn T) (nI a))
    (e3 : w' (32 * t + 3) = upd (w (32 * t + 3)) (tn T) (nI (tO (tPut T k a) (tn T)))) (e4 : w' (32 * t + 4) = upd (w (32 * t + 4)) (tn T) (nI (td (tPut T k a) (tn T)))) (e5 : w' (32 * t + 5) = upd (w (32 * t + 5)) (tn T) 0) (e6 : w' (32 * t + 6) = w (32 * t + 6)) (e7 : w' (32 * t + 7) = upd (w (32 * t + 7)) (tn T) 0) : tR w' t (tPut T k a) := by
  refine ⟨⟨e0, fun l hl => ?_⟩, tPut_W hR.2 hn hk ha⟩
  rw [tPut_n] at hl
  rw [e1, e2, e3, e4, e5, e6, e7]
  by_cases e : l = tn T
  · subst e
    rw [upd_s, upd_s, upd_s, upd_s, upd_s, upd_s, tPut_kn, tPut_an, tPut_mn]
    refine ⟨rfl, rfl, rfl, rfl, rfl, fun i hi => absurd hi (Nat.not_lt_zero _), ?_⟩
    rw [show tU (tPut T k a) (tn T) = 0 from by
      unfold tU
      rw [z_mk_congr 8 (q := fun _ => false) (fun j _ => tPut_rn)]
      exact z_mk_0 8]
    rfl
  · have hl' : l < tn T := by omega
    rw [upd_o e, upd_o e, upd_o e, upd_o e, upd_o e, upd_o e, tPut_k hl', ← tPut_a hl', tPut_m hl', tPut_d hR.2.1 hl']
    obtain ⟨f1, f2, f3, f4, f5, f6, f7⟩ := hR.1.2 l hl'
    refine ⟨f1, f2, ?_, f4, f5, f6, ?_⟩
    · rw [f3]; unfold tO; rw [z_mk_congr 8 (fun j _ => tPut_b hR.2.1 hl')]
    · rw [f7]; unfold tU; rw [z_mk_congr 8 (fun j _ => tPut_r hl')]
theorem S_Tr_putOn {d t k a : Nat} {T : xT} {w : xWd} {Q : xMV → xWd → Prop} {x : Int32} (ht : 30 < t ∧ t < 40) (hR : tR w t T) (hn : tn T < 8) (hk : k ≤ 2) (ha : (tn T = 0 ∧ a = 8) ∨ (a < tn T ∧ x = nI a)) (h : ∀ w', tR w' t (tPut T k a) → fT t w w' → Q xU w') : xWp (d + 1) m_Tr_putOn 0 [xA 5 t, xI (nI k), xI x, xU] [] w Q := by
  have hw8 : w t 8 = nI (tn T) := hR.1.1
  have ecl : (nI (tn T)).toNatClampNeg = tn T := z_cl' (by omega)
  refine G_Tr_putOn_0 ⟨fun _ => ⟨fun c => ?_, fun c => ?_⟩, fun c => absurd ((z_lt (b := 8) (by omega) (by decide)).mpr hn) (by rw [hw8] at c; exact c)⟩
  · obtain ⟨hal, rfl⟩ : a < tn T ∧ x = nI a := by
      rcases ha with ⟨h0, _⟩ | ha
      · obtain ⟨j, hj, _⟩ := tR_ln hR c; omega
      · exact ha
    have eca : (nI a).toNatClampNeg = a := z_cl' (by omega)
    have hin : vp_in (nI (tn T)) 8 := z_in hn (by decide)
    have hia : vp_in (nI a) 8 := z_in (by omega) (by decide)
    rw [hw8, ecl]
    refine ⟨hin, fun w1 e1 => ?_⟩
    have k1 : w1 t 8 = nI (tn T) := by rw [e1, x_set_o (by omega)]; exact hw8
    rw [k1, ecl]
    refine ⟨hin, fun w2 e2 => ?_⟩
    have k2 : w2 t 8 = nI (tn T) := by rw [e2, x_set_o (by omega)]; exact k1
    rw [k2, ecl, eca]
    refine ⟨hia, hin, fun w3 e3 => ?_⟩
    have k3 : w3 t 8 = nI (tn T) := by rw [e3, x_set_o (by omega)]; exact k2
    rw [k3, ecl]
    refine ⟨hia, hin, fun w4 e4 => ?_⟩
    have k4 : w4 t 8 = nI (tn T) := by rw [e4, x_set_o (by omega)]; exact k3
    rw [k4, ecl]
    refine ⟨hin, fun w5 e5 => ?_⟩
    have k5 : w5 t 8 = nI (tn T) := by rw [e5, x_set_o (by omega)]; exact k4
    rw [k5, ecl]
    refine ⟨hin, fun w6 e6 => ?_⟩
    have k6 : w6 t 8 = nI (tn T) := by rw [e6, x_set_o (by omega)]; exact k5
    rw [k6]
    intro w7 e7
    have hO : w2 (32 * t + 3) a = nI (tO T a) := by rw [e2, e1]; simp (disch := omega) only [x_set_o]; exact (hR.1.2 a hal).2.2.1
    have hDp : w3 (32 * t + 4) a = nI (td T a) := by rw [e3, e2, e1]; simp (disch := omega) only [x_set_o]; exact (hR.1.2 a hal).2.2.2.1
    rw [hO, z_shl a (by omega), tO_put (k := k) hR.2.1 hn hal] at e3
    have edp : nI (td T a) + 1 = nI (td (tPut T k a) (tn T)) := by
      rw [td_s (tPut_ch hR.2.1 hn (Or.inr hal)) (l := tn T) (by rw [tPut_n]; omega) (by omega), tPut_an, tPut_d hR.2.1 hal, nI_1]
    rw [hDp, edp] at e4
    refine h w7 (tC_put hR hn hk (Or.inr hal) ?_ ?_ ?_ ?_ ?_ ?_ ?_ ?_) ?_
    · rw [e7, x_set_s, upd_s, nI_1]
    · rw [e7, e6, e5, e4, e3, e2, e1]; simp (disch := omega) only [x_set_o, x_set_s]
    · rw [e7, e6, e5, e4, e3, e2, e1]; simp (disch := omega) only [x_set_o, x_set_s]
    · rw [e7, e6, e5, e4, e3, e2, e1]; simp (disch := omega) only [x_set_o, x_set_s]
    · rw [e7, e6, e5, e4, e3, e2, e1]; simp (disch := omega) only [x_set_o, x_set_s]
    · rw [e7, e6, e5, e4, e3, e2, e1]; simp (disch := omega) only [x_set_o, x_set_s]
    · rw [e7, e6, e5, e4, e3, e2, e1]; simp (disch := omega) only [x_set_o, x_set_s]
    · rw [e7, e6, e5, e4, e3, e2, e1]; simp (disch := omega) only [x_set_o, x_set_s]
    · intro b hb hb2
      rw [e7, e6, e5, e4, e3, e2, e1]; simp (disch := omega) only [x_set_o]
  · obtain ⟨h0, rfl⟩ : tn T = 0 ∧ a = 8 := by
      rcases ha with ha | ⟨ha, rfl⟩
      · exact ha
      · exact absurd (tR_lt hR ha) c
    have hin : vp_in (nI (tn T)) 8 := z_in hn (by decide)
    rw [hw8, ecl]
    refine ⟨hin, fun w1 e1 => ?_⟩
    have k1 : w1 t 8 = nI (tn T) := by rw [e1, x_set_o (by omega)]; exact hw8
    rw [k1, ecl]
    refine ⟨hin, fun w2 e2 => ?_⟩
    have k2 : w2 t 8 = nI (tn T) := by rw [e2, x_set_o (by omega)]; exact k1
    rw [k2, ecl]
    refine ⟨hin, fun w3 e3 => ?_⟩
    have k3 : w3 t 8 = nI (tn T) := by rw [e3, x_set_o (by omega)]; exact k2
    rw [k3, ecl]
    refine ⟨hin, fun w4 e4 => ?_⟩
    have k4 : w4 t 8 = nI (tn T) := by rw [e4, x_set_o (by omega)]; exact k3
    rw [k4, ecl]
    refine ⟨hin, fun w5 e5 => ?_⟩
    have k5 : w5 t 8 = nI (tn T) := by rw [e5, x_set_o (by omega)]; exact k4
    rw [k5, ecl]
    refine ⟨hin, fun w6 e6 => ?_⟩
    have k6 : w6 t 8 = nI (tn T) := by rw [e6, x_set_o (by omega)]; exact k5
    rw [k6]
    intro w7 e7
    have hch := tPut_ch (k := k) hR.2.1 hn (Or.inl ⟨h0, rfl⟩)
    have hz : tO (tPut T k 8) (tn T) = 0 := by
      unfold tO
      rw [z_mk_congr 8 (q := fun _ => false) (fun j _ => by rw [h0]; exact tb_0 hch (by rw [tPut_n]; omega) j)]
      exact z_mk_0 8
    have hd0 : td (tPut T k 8) (tn T) = 0 := by rw [h0]; exact td_0 hch (by rw [tPut_n]; omega)
    refine h w7 (tC_put hR hn hk (Or.inl ⟨h0, rfl⟩) ?_ ?_ ?_ ?_ ?_ ?_ ?_ ?_) ?_
    · rw [e7, x_set_s, upd_s, nI_1]
    · rw [e7, e6, e5, e4, e3, e2, e1]; simp (disch := omega) only [x_set_o, x_set_s]
    · rw [e7, e6, e5, e4, e3, e2, e1]; simp (disch := omega) only [x_set_o, x_set_s]; rfl
    · rw [hz, e7, e6, e5, e4, e3, e2, e1]; simp (disch := omega) only [x_set_o, x_set_s]; rfl
    · rw [hd0, e7, e6, e5, e4, e3, e2, e1]; simp (disch := omega) only [x_set_o, x_set_s]; rfl
    · rw [e7, e6, e5, e4, e3, e2, e1]; simp (disch := omega) only [x_set_o, x_set_s]
    · rw [e7, e6, e5, e4, e3, e2, e1]; simp (disch := omega) only [x_set_o, x_set_s]
    · rw [e7, e6, e5, e4, e3, e2, e1]; simp (disch := omega) only [x_set_o, x_set_s]
    · intro b hb hb2
      rw [e7, e6, e5, e4, e3, e2, e1]; simp (disch := omega) only [x_set_o]
theorem G_Tr_useToo_0 {d : Nat} {T : xT} {a0 : Nat} {x1 : Int32} {w : xWd} {Q : xMV → xWd → Prop} (h : ((tR w a0 T) ∧ ((pB T ((w a0 8) - 1) x1 → (vp_in ((w a0 8) - 1) 8 ∧ ((2 ≤ w (32 * a0 + 5) ((w a0 8) - 1).toNatClampNeg → Q (xI 0) w) ∧ (¬ (2 ≤ w (32 * a0 + 5) ((w a0 8) - 1).toNatClampNeg) → (vp_in ((w a0 8) - 1) 8 ∧ ((p_in (w (32 * a0 + 7) ((w a0 8) - 1).toNatClampNeg) x1 → Q (xI 0) w) ∧ (¬ (p_in (w (32 * a0 + 7) ((w a0 8) - 1).toNatClampNeg) x1) → (vp_in ((w a0 8) - 1) 8 ∧ (vp_in ((((w a0 8) - 1) * 2) + (w (32 * a0 + 5) ((w a0 8) - 1).toNatClampNeg)) 16 ∧ ∀ w1 : xWd, w1 = x_set w (32 * a0 + 6) (((((w a0 8) - 1) * 2) + (w (32 * a0 + 5) ((w a0 8) - 1).toNatClampNeg)).toNatClampNeg) x1 → (vp_in ((w a0 8) - 1) 8 ∧ (vp_in ((w a0 8) - 1) 8 ∧ ∀ w2 : xWd, w2 = x_set w1 (32 * a0 + 7) (((w a0 8) - 1).toNatClampNeg) ((w1 (32 * a0 + 7) ((w a0 8) - 1).toNatClampNeg) ||| ((1 : Int32) <<< (x1 &&& 31))) → (vp_in ((w a0 8) - 1) 8 ∧ (vp_in ((w a0 8) - 1) 8 ∧ ∀ w3 : xWd, w3 = x_set w2 (32 * a0 + 5) (((w a0 8) - 1).toNatClampNeg) ((w2 (32 * a0 + 5) ((w a0 8) - 1).toNatClampNeg) + 1) → Q (xI 1) w3))))))))))))) ∧ (¬ (pB T ((w a0 8) - 1) x1) → Q (xI 0) w)))) : xWp (d + 2) m_Tr_useToo 0 [xA 5 a0, xI x1, xU] [] w Q := by
  refine x_goN 8 (pc' := 10) (ls' := [xA 5 a0, xI x1, xI ((w a0 8) - 1)]) (st' := [xI x1, xI ((w a0 8) - 1), xA 5 a0]) (w' := w) rfl ?_
  refine x_call (y := m_Tr_isBelow) (as := [xA 5 a0, xI ((w a0 8) - 1), xI x1]) (rst := []) rfl [xA 5 a0, xI ((w a0 8) - 1), xI x1] rfl ?_
  refine S_Tr_isBelow h.1 (fun c1 => ?_) (fun c1 => ?_)
  · skip
    refine x_goN 1 (pc' := if (1 : Int32) = (0 : Int32) then 39 else 16) (ls' := [xA 5 a0, xI x1, xI ((w a0 8) - 1)]) (st' := []) (w' := w) rfl ?_
    refine x_brF (by decide) ?_
    refine x_goN 3 (pc' := 21) (ls' := [xA 5 a0, xI x1, xI ((w a0 8) - 1)]) (st' := [xI ((w a0 8) - 1), xA 108 (32 * a0 + 5)]) (w' := w) rfl ?_
    refine x_ob (P := vp_in ((w a0 8) - 1) 8) (pc' := 22) (ls' := [xA 5 a0, xI x1, xI ((w a0 8) - 1)]) (st' := [xI (w (32 * a0 + 5) ((w a0 8) - 1).toNatClampNeg)]) (w' := w) rfl (h.2.1 c1).1 ?_
    refine x_goN 2 (pc' := if 2 ≤ w (32 * a0 + 5) ((w a0 8) - 1).toNatClampNeg then 39 else 26) (ls' := [xA 5 a0, xI x1, xI ((w a0 8) - 1)]) (st' := []) (w' := w) rfl ?_
    refine x_br (fun c2 => ?_) (fun c2 => ?_)
    · skip
      refine x_goN 1 (pc' := 40) (ls' := [xA 5 a0, xI x1, xI ((w a0 8) - 1)]) (st' := [xI 0]) (w' := w) rfl ?_
      exact x_ret (P := (0 : Int32) = 0 ∨ (0 : Int32) = 1) rfl (by decide) ((h.2.1 c1).2.1 c2)
    · skip
      refine x_goN 3 (pc' := 31) (ls' := [xA 5 a0, xI x1, xI ((w a0 8) - 1)]) (st' := [xI ((w a0 8) - 1), xA 108 (32 * a0 + 7)]) (w' := w) rfl ?_
      refine x_ob (P := vp_in ((w a0 8) - 1) 8) (pc' := 32) (ls' := [xA 5 a0, xI x1, xI ((w a0 8) - 1)]) (st' := [xI (w (32 * a0 + 7) ((w a0 8) - 1).toNatClampNeg)]) (w' := w) rfl ((h.2.1 c1).2.2 c2).1 ?_
      refine x_goN 1 (pc' := 33) (ls' := [xA 5 a0, xI x1, xI ((w a0 8) - 1)]) (st' := [xI x1, xI (w (32 * a0 + 7) ((w a0 8) - 1).toNatClampNeg)]) (w' := w) rfl ?_
      refine x_call (y := m_Vp_inSet) (as := [xI (w (32 * a0 + 7) ((w a0 8) - 1).toNatClampNeg), xI x1]) (rst := []) rfl [xI (w (32 * a0 + 7) ((w a0 8) - 1).toNatClampNeg), xI x1] rfl ?_
      refine S_Vp_inSet (fun c3 => ?_) (fun c3 => ?_)
      · skip
        refine x_goN 1 (pc' := if (1 : Int32) = (0 : Int32) then 41 else 39) (ls' := [xA 5 a0, xI x1, xI ((w a0 8) - 1)]) (st' := []) (w' := w) rfl ?_
        refine x_brF (by decide) ?_
        refine x_goN 1 (pc' := 40) (ls' := [xA 5 a0, xI x1, xI ((w a0 8) - 1)]) (st' := [xI 0]) (w' := w) rfl ?_
        exact x_ret (P := (0 : Int32) = 0 ∨ (0 : Int32) = 1) rfl (by decide) (((h.2.1 c1).2.2 c2).2.1 c3)
      · skip
        refine x_goN 1 (pc' := if (0 : Int32) = (0 : Int32) then 41 else 39) (ls' := [xA 5 a0, xI x1, xI ((w a0 8) - 1)]) (st' := []) (w' := w) rfl ?_
        refine x_brT (by decide) ?_
        refine x_goN 8 (pc' := 53) (ls' := [xA 5 a0, xI x1, xI ((w a0 8) - 1)]) (st' := [xI ((w a0 8) - 1), xA 108 (32 * a0 + 5), xI (((w a0 8) - 1) * 2), xA 116 (32 * a0 + 6)]) (w' := w) rfl ?_
        refine x_ob (P := vp_in ((w a0 8) - 1) 8) (pc' := 54) (ls' := [xA 5 a0, xI x1, xI ((w a0 8) - 1)]) (st' := [xI (w (32 * a0 + 5) ((w a0 8) - 1).toNatClampNeg), xI (((w a0 8) - 1) * 2), xA 116 (32 * a0 + 6)]) (w' := w) rfl (((h.2.1 c1).2.2 c2).2.2 c3).1 ?_
        refine x_goN 2 (pc' := 56) (ls' := [xA 5 a0, xI x1, xI ((w a0 8) - 1)]) (st' := [xI x1, xI ((((w a0 8) - 1) * 2) + (w (32 * a0 + 5) ((w a0 8) - 1).toNatClampNeg)), xA 116 (32 * a0 + 6)]) (w' := w) rfl ?_
        refine x_obW (P := vp_in ((((w a0 8) - 1) * 2) + (w (32 * a0 + 5) ((w a0 8) - 1).toNatClampNeg)) 16) (pc' := 57) (ls' := [xA 5 a0, xI x1, xI ((w a0 8) - 1)]) (st' := []) (w' := x_set w (32 * a0 + 6) (((((w a0 8) - 1) * 2) + (w (32 * a0 + 5) ((w a0 8) - 1).toNatClampNeg)).toNatClampNeg) x1) rfl (((h.2.1 c1).2.2 c2).2.2 c3).2.1 (fun w1 ew1 => ?_)
        refine x_goN 4 (pc' := 63) (ls' := [xA 5 a0, xI x1, xI ((w a0 8) - 1)]) (st' := [xI ((w a0 8) - 1), xA 108 (32 * a0 + 7), xI ((w a0 8) - 1), xA 108 (32 * a0 + 7)]) (w' := w1) rfl ?_
        refine x_ob (P := vp_in ((w a0 8) - 1) 8) (pc' := 64) (ls' := [xA 5 a0, xI x1, xI ((w a0 8) - 1)]) (st' := [xI (w1 (32 * a0 + 7) ((w a0 8) - 1).toNatClampNeg), xI ((w a0 8) - 1), xA 108 (32 * a0 + 7)]) (w' := w1) rfl ((((h.2.1 c1).2.2 c2).2.2 c3).2.2 w1 ew1).1 ?_
        refine x_goN 4 (pc' := 68) (ls' := [xA 5 a0, xI x1, xI ((w a0 8) - 1)]) (st' := [xI ((w1 (32 * a0 + 7) ((w a0 8) - 1).toNatClampNeg) ||| ((1 : Int32) <<< (x1 &&& 31))), xI ((w a0 8) - 1), xA 108 (32 * a0 + 7)]) (w' := w1) rfl ?_
        refine x_obW (P := vp_in ((w a0 8) - 1) 8) (pc' := 69) (ls' := [xA 5 a0, xI x1, xI ((w a0 8) - 1)]) (st' := []) (w' := x_set w1 (32 * a0 + 7) (((w a0 8) - 1).toNatClampNeg) ((w1 (32 * a0 + 7) ((w a0 8) - 1).toNatClampNeg) ||| ((1 : Int32) <<< (x1 &&& 31)))) rfl ((((h.2.1 c1).2.2 c2).2.2 c3).2.2 w1 ew1).2.1 (fun w2 ew2 => ?_)
        refine x_goN 4 (pc' := 75) (ls' := [xA 5 a0, xI x1, xI ((w a0 8) - 1)]) (st' := [xI ((w a0 8) - 1), xA 108 (32 * a0 + 5), xI ((w a0 8) - 1), xA 108 (32 * a0 + 5)]) (w' := w2) rfl ?_
        refine x_ob (P := vp_in ((w a0 8) - 1) 8) (pc' := 76) (ls' := [xA 5 a0, xI x1, xI ((w a0 8) - 1)]) (st' := [xI (w2 (32 * a0 + 5) ((w a0 8) - 1).toNatClampNeg), xI ((w a0 8) - 1), xA 108 (32 * a0 + 5)]) (w' := w2) rfl (((((h.2.1 c1).2.2 c2).2.2 c3).2.2 w1 ew1).2.2 w2 ew2).1 ?_
        refine x_goN 2 (pc' := 78) (ls' := [xA 5 a0, xI x1, xI ((w a0 8) - 1)]) (st' := [xI ((w2 (32 * a0 + 5) ((w a0 8) - 1).toNatClampNeg) + 1), xI ((w a0 8) - 1), xA 108 (32 * a0 + 5)]) (w' := w2) rfl ?_
        refine x_obW (P := vp_in ((w a0 8) - 1) 8) (pc' := 79) (ls' := [xA 5 a0, xI x1, xI ((w a0 8) - 1)]) (st' := []) (w' := x_set w2 (32 * a0 + 5) (((w a0 8) - 1).toNatClampNeg) ((w2 (32 * a0 + 5) ((w a0 8) - 1).toNatClampNeg) + 1)) rfl (((((h.2.1 c1).2.2 c2).2.2 c3).2.2 w1 ew1).2.2 w2 ew2).2.1 (fun w3 ew3 => ?_)
        refine x_goN 1 (pc' := 80) (ls' := [xA 5 a0, xI x1, xI ((w a0 8) - 1)]) (st' := [xI 1]) (w' := w3) rfl ?_
        exact x_ret (P := (1 : Int32) = 0 ∨ (1 : Int32) = 1) rfl (by decide) ((((((h.2.1 c1).2.2 c2).2.2 c3).2.2 w1 ew1).2.2 w2 ew2).2.2 w3 ew3)
  · skip
    refine x_goN 1 (pc' := if (0 : Int32) = (0 : Int32) then 39 else 16) (ls' := [xA 5 a0, xI x1, xI ((w a0 8) - 1)]) (st' := []) (w' := w) rfl ?_
    refine x_brT (by decide) ?_
    refine x_goN 1 (pc' := 40) (ls' := [xA 5 a0, xI x1, xI ((w a0 8) - 1)]) (st' := [xI 0]) (w' := w) rfl ?_
    exact x_ret (P := (0 : Int32) = 0 ∨ (0 : Int32) = 1) rfl (by decide) (h.2.2 c1)
def fU (v : Int32) (T : xT) : Prop := ∃ c : Nat, v = nI c ∧ tCan T c
theorem tU_use {T : xT} {v : Nat} (hv : v < 8) (hm : tm T (tn T - 1) < 2) : nI (tU T (tn T - 1)) ||| nI (2 ^ v) = nI (tU (tUse T v) (tn T - 1)) := by
  rw [fa_or]
  congr 1
  apply Nat.eq_of_testBit_eq
  intro i
  unfold tU
  rw [Nat.testBit_or, z_mk_tb, z_mk_tb, Nat.testBit_two_pow, tUse_rn hm]
  by_cases hi : i < 8
  · rw [decide_eq_true hi, Bool.true_and, Bool.true_and]
  · rw [decide_eq_false hi, Bool.false_and, Bool.false_and, Bool.false_or]
    exact decide_eq_false (by omega)
theorem S_Tr_useToo {d t : Nat} {T : xT} {w : xWd} {Q : xMV → xWd → Prop} {x : Int32} (ht : 30 < t ∧ t < 40) (hR : tR w t T) (h1 : ∀ (v : Nat) (w' : xWd), x = nI v → tCan T v → tR w' t (tUse T v) → fT t w w' → Q (xI 1) w') (h2 : ¬ fU x T → Q (xI 0) w) : xWp (d + 2) m_Tr_useToo 0 [xA 5 t, xI x, xU] [] w Q := by
  have h8 := tR_n8 hR
  have hw8 : w t 8 = nI (tn T) := hR.1.1
  refine G_Tr_useToo_0 ⟨hR, fun c => ?_, fun c => h2 (fun ⟨v, e, h0, hb, _⟩ => c ?_)⟩
  · obtain ⟨l, v, el, rfl, hl, hv, hb⟩ := c
    rw [hw8] at el
    have h0 : 0 < tn T := by omega
    have el2 : nI (tn T) - 1 = nI (tn T - 1) := pk_sub (b := 1) (by omega)
    have hle : l = tn T - 1 := ((z_eq (by omega) (by omega)).mp (el2.symm.trans el)).symm
    subst hle
    have hm := tR_m2 hR hl
    have hin : vp_in (nI (tn T - 1)) 8 := z_in (by omega) (by decide)
    have ecl : (nI (tn T - 1)).toNatClampNeg = tn T - 1 := z_cl' (by omega)
    have hM : w (32 * t + 5) (tn T - 1) = nI (tm T (tn T - 1)) := (hR.1.2 _ hl).2.2.2.2.1
    rw [hw8, el2]
    refine ⟨hin, ?_⟩
    rw [ecl, hM]
    refine ⟨fun c1 => h2 (fun ⟨v', e, _, _, hm2, _⟩ => ?_), fun c1 => ⟨hin, fun c2 => h2 (fun ⟨v', e, _, hb', _, hr⟩ => ?_), fun c2 => ?_⟩⟩
    · have := (z_le (a := 2) (by decide) (by omega)).mp c1
      omega
    · have hlt' := tb_lt' hR.2.1 hl hb'
      have ev := (z_eq (by omega) (by omega)).mp e.symm
      subst ev
      have q : tr T (tn T - 1) v' = true := by
        have := (tC_sp hR hl (show v' < 8 by omega)).mp (by rw [ecl]; exact c2)
        exact this
      rw [q] at hr; cases hr
    · have hm2 : tm T (tn T - 1) < 2 := by
        have : ¬ 2 ≤ tm T (tn T - 1) := fun q => c1 ((z_le (a := 2) (by decide) (by omega)).mpr q)
        omega
      have hr : tr T (tn T - 1) v = false := by
        apply Bool.eq_false_iff.mpr
        intro q
        have := (tC_sp hR hl (show v < 8 by omega)).mpr q
        rw [ecl] at this
        exact c2 this
      have eix : nI (tn T - 1) * 2 + nI (tm T (tn T - 1)) = nI (2 * (tn T - 1) + tm T (tn T - 1)) := by
        rw [show nI (tn T - 1) * 2 = nI ((tn T - 1) * 2) from pk_mul _ 2, nI_add, Nat.mul_comm]
      rw [eix, z_cl' (show 2 * (tn T - 1) + tm T (tn T - 1) < 2 ^ 31 by omega)]
      refine ⟨hin, z_in (by omega) (by decide), fun w1 e1 => ?_⟩
      refine ⟨hin, hin, fun w2 e2 => ?_⟩
      refine ⟨hin, hin, fun w3 e3 => ?_⟩
      have hU : w1 (32 * t + 7) (tn T - 1) = nI (tU T (tn T - 1)) := by
        rw [e1]; simp (disch := omega) only [x_set_o]; exact (hR.1.2 _ hl).2.2.2.2.2.2
      have hM2 : w2 (32 * t + 5) (tn T - 1) = nI (tm T (tn T - 1)) := by
        rw [e2, e1]; simp (disch := omega) only [x_set_o]; exact hM
      rw [hU, z_shl v (by omega), tU_use (by omega) hm2] at e2
      rw [hM2, nI_1] at e3
      have hcan : tCan T v := ⟨h0, hb, hm2, hr⟩
      refine h1 v w3 rfl hcan ⟨⟨?_, fun l hl' => ?_⟩, tUse_W hR.2 hcan⟩ ?_
      · rw [e3, e2, e1]; simp (disch := omega) only [x_set_o]; exact hw8
      · have hl'' : l < tn T := hl'
        obtain ⟨f1, f2, f3, f4, f5, f6, f7⟩ := hR.1.2 l hl''
        have hml := tR_m2 hR hl''
        have g1 : w3 (32 * t + 1) = w (32 * t + 1) := by rw [e3, e2, e1]; simp (disch := omega) only [x_set_o]
        have g2 : w3 (32 * t + 2) = w (32 * t + 2) := by rw [e3, e2, e1]; simp (disch := omega) only [x_set_o]
        have g3 : w3 (32 * t + 3) = w (32 * t + 3) := by rw [e3, e2, e1]; simp (disch := omega) only [x_set_o]
        have g4 : w3 (32 * t + 4) = w (32 * t + 4) := by rw [e3, e2, e1]; simp (disch := omega) only [x_set_o]
        have g5 : w3 (32 * t + 5) = upd (w (32 * t + 5)) (tn T - 1) (nI (tm T (tn T - 1) + 1)) := by rw [e3, e2, e1]; simp (disch := omega) only [x_set_o, x_set_s]
        have g6 : w3 (32 * t + 6) = upd (w (32 * t + 6)) (2 * (tn T - 1) + tm T (tn T - 1)) (nI v) := by rw [e3, e2, e1]; simp (disch := omega) only [x_set_o, x_set_s]
        have g7 : w3 (32 * t + 7) = upd (w (32 * t + 7)) (tn T - 1) (nI (tU (tUse T v) (tn T - 1))) := by rw [e3, e2, e1]; simp (disch := omega) only [x_set_o, x_set_s]
        rw [g1, g2, g3, g4, g5, g6, g7]
        refine ⟨f1, f2, f3, f4, ?_, ?_, ?_⟩
        · by_cases e : l = tn T - 1
          · subst e; rw [upd_s, tUse_mn]
          · rw [upd_o e, tUse_m e]; exact f5
        · intro i hi
          by_cases e : l = tn T - 1
          · subst e
            rw [tUse_mn] at hi
            by_cases ei : i = tm T (tn T - 1)
            · subst ei; rw [upd_s, tUse_un]
            · rw [upd_o (by omega), tUse_u (by omega)]; exact f6 i (by omega)
          · rw [tUse_m e] at hi
            rw [upd_o (by omega), tUse_u (by omega)]; exact f6 i hi
        · by_cases e : l = tn T - 1
          · subst e; rw [upd_s]
          · rw [upd_o e, f7]
            unfold tU
            rw [z_mk_congr 8 (fun j _ => tUse_r e hl'' hml)]
      · intro b hb1 hb2
        rw [e3, e2, e1]; simp (disch := omega) only [x_set_o]
  · have hlt := tb_lt' hR.2.1 (show tn T - 1 < tn T by omega) hb
    exact ⟨tn T - 1, v, by rw [hw8]; exact pk_sub (b := 1) (by omega), e, by omega, by omega, hb⟩
theorem G_Tr_useInstead_0 {d : Nat} {T : xT} {a0 : Nat} {x1 : Int32} {x2 : Int32} {x3 : Int32} {w : xWd} {Q : xMV → xWd → Prop} (h : ((tR w a0 T) ∧ ((pU T x1 x2 x3 → (vp_in x1 8 ∧ ((tR w a0 T) ∧ (vp_in x1 8 ∧ ∀ w1 : xWd, w1 = x_set w (32 * a0 + 7) x1.toNatClampNeg (((w (32 * a0 + 7) x1.toNatClampNeg) &&& (((1 : Int32) <<< ((vUs T x1 x2) &&& 31)) ^^^ (-1))) ||| ((1 : Int32) <<< (x3 &&& 31))) → (vp_in ((x1 * 2) + x2) 16 ∧ ∀ w2 : xWd, w2 = x_set w1 (32 * a0 + 6) (((x1 * 2) + x2).toNatClampNeg) x3 → Q xU w2))))) ∧ (¬ (pU T x1 x2 x3) → Q xU w)))) : xWp (d + 4) m_Tr_useInstead 0 [xA 5 a0, xI x1, xI x2, xI x3] [] w Q := by
  refine x_goN 4 (pc' := 4) (ls' := [xA 5 a0, xI x1, xI x2, xI x3]) (st' := [xI x3, xI x2, xI x1, xA 5 a0]) (w' := w) rfl ?_
  refine x_call (y := m_Tr_mayUse) (as := [xA 5 a0, xI x1, xI x2, xI x3]) (rst := []) rfl [xA 5 a0, xI x1, xI x2, xI x3] rfl ?_
  refine S_Tr_mayUse h.1 (fun c1 => ?_) (fun c1 => ?_)
  · skip
    refine x_goN 1 (pc' := if (1 : Int32) = (0 : Int32) then 48 else 10) (ls' := [xA 5 a0, xI x1, xI x2, xI x3]) (st' := []) (w' := w) rfl ?_
    refine x_brF (by decide) ?_
    refine x_goN 6 (pc' := 20) (ls' := [xA 5 a0, xI x1, xI x2, xI x3]) (st' := [xI x1, xA 108 (32 * a0 + 7), xI x1, xA 108 (32 * a0 + 7)]) (w' := w) rfl ?_
    refine x_ob (P := vp_in x1 8) (pc' := 21) (ls' := [xA 5 a0, xI x1, xI x2, xI x3]) (st' := [xI (w (32 * a0 + 7) x1.toNatClampNeg), xI x1, xA 108 (32 * a0 + 7)]) (w' := w) rfl (h.2.1 c1).1 ?_
    refine x_goN 4 (pc' := 25) (ls' := [xA 5 a0, xI x1, xI x2, xI x3]) (st' := [xI x2, xI x1, xA 5 a0, xI 1, xI (w (32 * a0 + 7) x1.toNatClampNeg), xI x1, xA 108 (32 * a0 + 7)]) (w' := w) rfl ?_
    refine x_call (y := m_Tr_usedIn) (as := [xA 5 a0, xI x1, xI x2]) (rst := [xI 1, xI (w (32 * a0 + 7) x1.toNatClampNeg), xI x1, xA 108 (32 * a0 + 7)]) rfl [xA 5 a0, xI x1, xI x2] rfl ?_
    refine S_Tr_usedIn (h.2.1 c1).2.1 ?_
    refine x_goN 8 (pc' := 36) (ls' := [xA 5 a0, xI x1, xI x2, xI x3]) (st' := [xI (((w (32 * a0 + 7) x1.toNatClampNeg) &&& (((1 : Int32) <<< ((vUs T x1 x2) &&& 31)) ^^^ (-1))) ||| ((1 : Int32) <<< (x3 &&& 31))), xI x1, xA 108 (32 * a0 + 7)]) (w' := w) rfl ?_
    refine x_obW (P := vp_in x1 8) (pc' := 37) (ls' := [xA 5 a0, xI x1, xI x2, xI x3]) (st' := []) (w' := x_set w (32 * a0 + 7) x1.toNatClampNeg (((w (32 * a0 + 7) x1.toNatClampNeg) &&& (((1 : Int32) <<< ((vUs T x1 x2) &&& 31)) ^^^ (-1))) ||| ((1 : Int32) <<< (x3 &&& 31)))) rfl (h.2.1 c1).2.2.1 (fun w1 ew1 => ?_)
    refine x_goN 8 (pc' := 47) (ls' := [xA 5 a0, xI x1, xI x2, xI x3]) (st' := [xI x3, xI ((x1 * 2) + x2), xA 116 (32 * a0 + 6)]) (w' := w1) rfl ?_
    refine x_obW (P := vp_in ((x1 * 2) + x2) 16) (pc' := 48) (ls' := [xA 5 a0, xI x1, xI x2, xI x3]) (st' := []) (w' := x_set w1 (32 * a0 + 6) (((x1 * 2) + x2).toNatClampNeg) x3) rfl ((h.2.1 c1).2.2.2 w1 ew1).1 (fun w2 ew2 => ?_)
    exact x_ret (P := True) rfl trivial (((h.2.1 c1).2.2.2 w1 ew1).2 w2 ew2)
  · skip
    refine x_goN 1 (pc' := if (0 : Int32) = (0 : Int32) then 48 else 10) (ls' := [xA 5 a0, xI x1, xI x2, xI x3]) (st' := []) (w' := w) rfl ?_
    refine x_brT (by decide) ?_
    exact x_ret (P := True) rfl trivial (h.2.2 c1)
theorem tU_reu {T : xT} (hW : tW T) {l i v : Nat} (hl : l < tn T) (hi : i < tm T l) (hv : v < 8) : nI (z_cl (tU T l) (tu T (2 * l + i))) ||| nI (2 ^ v) = nI (tU (tReu T l i v) l) := by
  obtain ⟨-, hm, -, hne⟩ := hW.2 l hl
  have hu := tu_lt hW hl hi
  rw [fa_or]
  congr 1
  have b1 := z_cl_lt (tU T l) (tU_lt T l) _ hu
  have b2 : 2 ^ v < 256 := Nat.pow_lt_pow_right (n := 8) (by decide) hv
  apply z_ext (Nat.or_lt_two_pow (n := 8) b1 b2) (tU_lt _ _)
  intro j hj
  rw [Nat.testBit_or, z_cl_tb _ (tU_lt T l) _ hu j hj, Nat.testBit_two_pow, tU_tb T l hj, tU_tb _ l hj]
  have hx : tr (tReu T l i v) l j = true ↔ (tr T l j = true ∧ j ≠ tu T (2 * l + i)) ∨ v = j := by
    rw [tr_iff (T := tReu T l i v) hm, tr_iff hm]
    constructor
    · rintro ⟨q, a, b⟩
      have a : q < tm T l := a
      by_cases e : q = i
      · subst e; rw [tReu_un] at b; exact Or.inr b
      · rw [tReu_u (by omega)] at b
        refine Or.inl ⟨⟨q, a, b⟩, fun r => ?_⟩
        have hm2 : tm T l = 2 := by omega
        have hn := hne hm2
        rcases (show (q = 0 ∧ i = 1) ∨ (q = 1 ∧ i = 0) by omega) with ⟨rfl, rfl⟩ | ⟨rfl, rfl⟩
        · exact hn (b.trans r)
        · exact hn (r.symm.trans b.symm)
    · rintro (⟨⟨q, a, b⟩, r⟩ | r)
      · have e : q ≠ i := fun e => by subst e; exact r b.symm
        exact ⟨q, a, by rw [tReu_u (by omega)]; exact b⟩
      · exact ⟨i, hi, by rw [tReu_un]; exact r⟩
  cases h1 : tr (tReu T l i v) l j with
  | true =>
    rcases hx.mp h1 with ⟨a, b⟩ | a
    · rw [a, decide_eq_true b]; rfl
    · rw [decide_eq_true a, Bool.or_true]
  | false =>
    apply Bool.eq_false_iff.mpr
    intro q
    rw [Bool.or_eq_true, Bool.and_eq_true] at q
    have : tr (tReu T l i v) l j = true := hx.mpr (by
      rcases q with ⟨a, b⟩ | a
      · exact Or.inl ⟨a, of_decide_eq_true b⟩
      · exact Or.inr (of_decide_eq_true a))
    rw [h1] at this; cases this
theorem S_Tr_useInstead {d t a b c : Nat} {T : xT} {w : xWd} {Q : xMV → xWd → Prop} (ht : 30 < t ∧ t < 40) (hR : tR w t T) (ha : a < tn T) (hb : b < tm T a) (hc : c < tn T) (hu : pU T (nI a) (nI b) (nI c)) (h : ∀ w', tR w' t (tReu T a b c) → fT t w w' → Q xU w') : xWp (d + 4) m_Tr_useInstead 0 [xA 5 t, xI (nI a), xI (nI b), xI (nI c)] [] w Q := by
  have h8 := tR_n8 hR
  have hm := tR_m2 hR ha
  have hp := (pU_iff h8 ha hb hm hc).mp hu
  have hul := tu_lt hR.2 ha hb
  have eca : (nI a).toNatClampNeg = a := z_cl' (by omega)
  refine G_Tr_useInstead_0 ⟨hR, fun _ => ?_, fun q => absurd hu q⟩
  have hin : vp_in (nI a) 8 := z_in (by omega) (by decide)
  rw [vUs_p h8 ha hb hm, eca, (hR.1.2 a ha).2.2.2.2.2.2, z_shl _ (by omega), z_clr _ (tU_lt T a) _ hul, z_shl c (by omega), tU_reu hR.2 ha hb (by omega)]
  have eix : nI a * 2 + nI b = nI (2 * a + b) := by
    rw [show nI a * 2 = nI (a * 2) from pk_mul _ 2, nI_add, Nat.mul_comm]
  rw [eix, z_cl' (show 2 * a + b < 2 ^ 31 by omega)]
  refine ⟨hin, hR, hin, fun w1 e1 => ⟨z_in (by omega) (by decide), fun w2 e2 => ?_⟩⟩
  refine h w2 ⟨⟨?_, fun l hl => ?_⟩, tReu_W hR.2 ha hb hp.1 hp.2⟩ ?_
  · rw [e2, e1]; simp (disch := omega) only [x_set_o]; exact hR.1.1
  · have hl' : l < tn T := hl
    obtain ⟨f1, f2, f3, f4, f5, f6, f7⟩ := hR.1.2 l hl'
    have hml := tR_m2 hR hl'
    have g1 : w2 (32 * t + 1) = w (32 * t + 1) := by rw [e2, e1]; simp (disch := omega) only [x_set_o]
    have g2 : w2 (32 * t + 2) = w (32 * t + 2) := by rw [e2, e1]; simp (disch := omega) only [x_set_o]
    have g3 : w2 (32 * t + 3) = w (32 * t + 3) := by rw [e2, e1]; simp (disch := omega) only [x_set_o]
    have g4 : w2 (32 * t + 4) = w (32 * t + 4) := by rw [e2, e1]; simp (disch := omega) only [x_set_o]
    have g5 : w2 (32 * t + 5) = w (32 * t + 5) := by rw [e2, e1]; simp (disch := omega) only [x_set_o]
    have g6 : w2 (32 * t + 6) = upd (w (32 * t + 6)) (2 * a + b) (nI c) := by rw [e2, e1]; simp (disch := omega) only [x_set_o, x_set_s]
    have g7 : w2 (32 * t + 7) = upd (w (32 * t + 7)) a (nI (tU (tReu T a b c) a)) := by rw [e2, e1]; simp (disch := omega) only [x_set_o, x_set_s]
    rw [g1, g2, g3, g4, g5, g6, g7]
    refine ⟨f1, f2, f3, f4, f5, fun i hi => ?_, ?_⟩
    · have hi' : i < tm T l := hi
      by_cases e : 2 * l + i = 2 * a + b
      · rw [e, upd_s, tReu_un]
      · rw [upd_o e, tReu_u e]; exact f6 i hi'
    · by_cases e : l = a
      · subst e; rw [upd_s]
      · rw [upd_o e, f7]
        unfold tU
        rw [z_mk_congr 8 (fun j _ => tReu_r e (by omega))]
  · intro q hq1 hq2
    rw [e2, e1]; simp (disch := omega) only [x_set_o]

