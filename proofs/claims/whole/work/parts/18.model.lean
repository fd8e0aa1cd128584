/-! THE MODEL'S LINES -/
def tS (w : xWd) (T : xT) : Prop := tM w T ∧ tW T
theorem tS_n8 {w : xWd} {T : xT} (h : tS w T) : tn T ≤ 8 := h.2.1.1
section TM
variable {w : xWd} {l v : Nat} {T : xT}
theorem tM_k (h : tS w T) (hl : l < tn T) : w 71 (nI l).toNatClampNeg = nI (tk T l) := by
  rw [z_cl' (by have := tS_n8 h; omega)]; exact (h.1.2 l hl).1
theorem tM_a (h : tS w T) (hl : l < tn T) : w 72 (nI l).toNatClampNeg = nI (ta T l) := by
  rw [z_cl' (by have := tS_n8 h; omega)]; exact (h.1.2 l hl).2.1
theorem tM_m (h : tS w T) (hl : l < tn T) : w 73 (nI l).toNatClampNeg = nI (tm T l) := by
  rw [z_cl' (by have := tS_n8 h; omega)]; exact (h.1.2 l hl).2.2.1
theorem tM_u (h : tS w T) (hl : l < tn T) {i : Nat} (hi : i < tm T l) : w 74 (2 * l + i) = nI (tu T (2 * l + i)) := (h.1.2 l hl).2.2.2 i hi
theorem tS_ge (h : tS w T) (hl : l < tn T) : ¬ w 2 5 ≤ nI l := by
  have h8 := tS_n8 h
  rw [h.1.1, z_le (by omega) (by omega)]; omega
theorem tS_end (h : tS w T) : w 2 5 ≤ nI (tn T) := by
  have h8 := tS_n8 h
  rw [h.1.1, z_le (by omega) (by omega)]; omega
theorem tS_m2 (h : tS w T) (hl : l < tn T) : tm T l ≤ 2 := (h.2.2 l hl).2.1
theorem tS_ln {x : Int32} (h : tS w T) (c : p_lt x (w 2 5)) : ∃ j, j < tn T ∧ x = nI j := by
  have h8 := tS_n8 h
  unfold p_lt at c
  rw [h.1.1, nI_toInt (by omega)] at c
  obtain ⟨j, e1, e2, -⟩ := z_of c.1
  exact ⟨j, by omega, e1⟩
theorem tS_lt {j : Nat} (h : tS w T) (hj : j < tn T) : p_lt (nI j) (w 2 5) := by
  have h8 := tS_n8 h
  unfold p_lt
  rw [h.1.1, nI_toInt (by omega), nI_toInt (by omega)]
  omega
end TM
theorem G_Md_isBelow_0 {d : Nat} {x1 : Int32} {x2 : Int32} {w : xWd} {Q : xMV → xWd → Prop} (h : (vp_in x1 8 ∧ xWp d m_Md_isBelow 7 [xA 7 2, xI x1, xI x2, xI (w 72 x1.toNatClampNeg)] [] w Q)) : xWp d m_Md_isBelow 0 [xA 7 2, xI x1, xI x2, xU] [] w Q := by
  refine x_goN 3 (pc' := 5) (ls' := [xA 7 2, xI x1, xI x2, xU]) (st' := [xI x1, xA 108 72]) (w' := w) rfl ?_
  refine x_ob (P := vp_in x1 8) (pc' := 6) (ls' := [xA 7 2, xI x1, xI x2, xU]) (st' := [xI (w 72 x1.toNatClampNeg)]) (w' := w) rfl h.1 ?_
  refine x_goN 1 (pc' := 7) (ls' := [xA 7 2, xI x1, xI x2, xI (w 72 x1.toNatClampNeg)]) (st' := []) (w' := w) rfl ?_
  exact h.2
theorem G_Md_isBelow_7 {d : Nat} {x1 : Int32} {x2 : Int32} {x3 : Int32} {w : xWd} {Q : xMV → xWd → Prop} (h : ((x3 = 8 → ((x3 = x2 → ((x2 = 8 → Q (xI 0) w) ∧ (¬ (x2 = 8) → Q (xI 1) w))) ∧ (¬ (x3 = x2) → Q (xI 0) w))) ∧ (¬ (x3 = 8) → ((x3 = x2 → ((x3 = x2 → ((x2 = 8 → Q (xI 0) w) ∧ (¬ (x2 = 8) → Q (xI 1) w))) ∧ (¬ (x3 = x2) → Q (xI 0) w))) ∧ (¬ (x3 = x2) → (vp_in x3 8 ∧ xWp d m_Md_isBelow 7 [xA 7 2, xI x1, xI x2, xI (w 72 x3.toNatClampNeg)] [] w Q)))))) : xWp d m_Md_isBelow 7 [xA 7 2, xI x1, xI x2, xI x3] [] w Q := by
  refine x_goN 3 (pc' := if x3 = 8 then 28 else 13) (ls' := [xA 7 2, xI x1, xI x2, xI x3]) (st' := []) (w' := w) rfl ?_
  refine x_br (fun c1 => ?_) (fun c1 => ?_)
  · skip
    refine x_goN 3 (pc' := if x3 = x2 then 33 else 43) (ls' := [xA 7 2, xI x1, xI x2, xI x3]) (st' := []) (w' := w) rfl ?_
    refine x_br (fun c2 => ?_) (fun c2 => ?_)
    · skip
      refine x_goN 3 (pc' := if x2 = 8 then 43 else 39) (ls' := [xA 7 2, xI x1, xI x2, xI x3]) (st' := []) (w' := w) rfl ?_
      refine x_br (fun c3 => ?_) (fun c3 => ?_)
      · skip
        refine x_goN 1 (pc' := 44) (ls' := [xA 7 2, xI x1, xI x2, xI x3]) (st' := [xI 0]) (w' := w) rfl ?_
        exact x_ret (P := (0 : Int32) = 0 ∨ (0 : Int32) = 1) rfl (by decide) (((h.1 c1).1 c2).1 c3)
      · skip
        refine x_goN 2 (pc' := 44) (ls' := [xA 7 2, xI x1, xI x2, xI x3]) (st' := [xI 1]) (w' := w) rfl ?_
        exact x_ret (P := (1 : Int32) = 0 ∨ (1 : Int32) = 1) rfl (by decide) (((h.1 c1).1 c2).2 c3)
    · skip
      refine x_goN 1 (pc' := 44) (ls' := [xA 7 2, xI x1, xI x2, xI x3]) (st' := [xI 0]) (w' := w) rfl ?_
      exact x_ret (P := (0 : Int32) = 0 ∨ (0 : Int32) = 1) rfl (by decide) ((h.1 c1).2 c2)
  · skip
    refine x_goN 3 (pc' := if x3 = x2 then 28 else 18) (ls' := [xA 7 2, xI x1, xI x2, xI x3]) (st' := []) (w' := w) rfl ?_
    refine x_br (fun c4 => ?_) (fun c4 => ?_)
    · skip
      refine x_goN 3 (pc' := if x3 = x2 then 33 else 43) (ls' := [xA 7 2, xI x1, xI x2, xI x3]) (st' := []) (w' := w) rfl ?_
      refine x_br (fun c5 => ?_) (fun c5 => ?_)
      · skip
        refine x_goN 3 (pc' := if x2 = 8 then 43 else 39) (ls' := [xA 7 2, xI x1, xI x2, xI x3]) (st' := []) (w' := w) rfl ?_
        refine x_br (fun c6 => ?_) (fun c6 => ?_)
        · skip
          refine x_goN 1 (pc' := 44) (ls' := [xA 7 2, xI x1, xI x2, xI x3]) (st' := [xI 0]) (w' := w) rfl ?_
          exact x_ret (P := (0 : Int32) = 0 ∨ (0 : Int32) = 1) rfl (by decide) ((((h.2 c1).1 c4).1 c5).1 c6)
        · skip
          refine x_goN 2 (pc' := 44) (ls' := [xA 7 2, xI x1, xI x2, xI x3]) (st' := [xI 1]) (w' := w) rfl ?_
          exact x_ret (P := (1 : Int32) = 0 ∨ (1 : Int32) = 1) rfl (by decide) ((((h.2 c1).1 c4).1 c5).2 c6)
      · skip
        refine x_goN 1 (pc' := 44) (ls' := [xA 7 2, xI x1, xI x2, xI x3]) (st' := [xI 0]) (w' := w) rfl ?_
        exact x_ret (P := (0 : Int32) = 0 ∨ (0 : Int32) = 1) rfl (by decide) (((h.2 c1).1 c4).2 c5)
    · skip
      refine x_goN 3 (pc' := 23) (ls' := [xA 7 2, xI x1, xI x2, xI x3]) (st' := [xI x3, xA 108 72]) (w' := w) rfl ?_
      refine x_ob (P := vp_in x3 8) (pc' := 24) (ls' := [xA 7 2, xI x1, xI x2, xI x3]) (st' := [xI (w 72 x3.toNatClampNeg)]) (w' := w) rfl ((h.2 c1).2 c4).1 ?_
      refine x_goN 2 (pc' := 7) (ls' := [xA 7 2, xI x1, xI x2, xI (w 72 x3.toNatClampNeg)]) (st' := []) (w' := w) rfl ?_
      exact ((h.2 c1).2 c4).2
theorem L_Md_isBelow {d l v : Nat} {T : xT} {w : xWd} {Q : xMV → xWd → Prop} (hS : tS w T) (hv : v < 8) : ∀ (f s : Nat), (s = 8 ∨ (s < tn T ∧ s ≤ f)) → (s < 8 ∧ (s = v ∨ tb T s v = true) → Q (xI 1) w) → (¬ (s < 8 ∧ (s = v ∨ tb T s v = true)) → Q (xI 0) w) → xWp d m_Md_isBelow 7 [xA 7 2, xI (nI l), xI (nI v), xI (nI s)] [] w Q := by
  have h8 := tS_n8 hS
  intro f
  induction f with
  | zero =>
    intro s hs h1 h2
    have e8 : (nI s = 8 ↔ s = 8) := z_eq (b := 8) (by omega) (by decide)
    have ev : (nI s = nI v ↔ s = v) := z_eq (by omega) (by omega)
    have ev8 : (nI v = 8 ↔ v = 8) := z_eq (b := 8) (by omega) (by decide)
    refine G_Md_isBelow_7 ⟨fun c => ⟨fun c2 => absurd (ev.mp c2) (by have := e8.mp c; omega), fun c2 => h2 (by have := e8.mp c; omega)⟩, fun c => ⟨fun c2 => ⟨fun c3 => ⟨fun c4 => absurd (ev8.mp c4) (by omega), fun c4 => h1 ?_⟩, fun c3 => absurd c2 c3⟩, fun c2 => ?_⟩⟩
    · have := ev.mp c2; exact ⟨by omega, Or.inl this⟩
    · have hs8 : s ≠ 8 := fun q => c (e8.mpr q)
      have hs0 : s = 0 := by omega
      have hn : 0 < tn T := by omega
      subst hs0
      refine ⟨z_in (by omega) (by decide), ?_⟩
      rw [tM_a hS hn, (hS.2.1.2 0 hn).1 rfl]
      have e8' : nI 8 = 8 := rfl
      have ev' : (nI 8 = nI v ↔ 8 = v) := z_eq (by omega) (by omega)
      exact G_Md_isBelow_7 ⟨fun _ => ⟨fun c4 => absurd (ev'.mp c4) (by omega), fun _ => h2 (fun ⟨_, q⟩ => by
        rcases q with q | q
        · exact c2 (ev.mpr q)
        · rw [tb_0 hS.2.1 hn] at q; cases q)⟩, fun c4 => absurd e8' c4⟩
  | succ f ih =>
    intro s hs h1 h2
    have e8 : (nI s = 8 ↔ s = 8) := z_eq (b := 8) (by omega) (by decide)
    have ev : (nI s = nI v ↔ s = v) := z_eq (by omega) (by omega)
    have ev8 : (nI v = 8 ↔ v = 8) := z_eq (b := 8) (by omega) (by decide)
    refine G_Md_isBelow_7 ⟨fun c => ⟨fun c2 => absurd (ev.mp c2) (by have := e8.mp c; omega), fun c2 => h2 (by have := e8.mp c; omega)⟩, fun c => ⟨fun c2 => ⟨fun c3 => ⟨fun c4 => absurd (ev8.mp c4) (by omega), fun c4 => h1 ?_⟩, fun c3 => absurd c2 c3⟩, fun c2 => ?_⟩⟩
    · have := ev.mp c2; exact ⟨by omega, Or.inl this⟩
    · have hs8 : s ≠ 8 := fun q => c (e8.mpr q)
      have hsv : s ≠ v := fun q => c2 (ev.mpr q)
      have hn : s < tn T := by omega
      refine ⟨z_in (by omega) (by decide), ?_⟩
      rw [tM_a hS hn]
      by_cases e0 : s = 0
      · subst e0
        have hta := (hS.2.1.2 0 hn).1 rfl
        refine ih (ta T 0) (Or.inl hta) (fun ⟨q, _⟩ => by omega) (fun _ => h2 (fun ⟨_, q⟩ => ?_))
        rcases q with q | q
        · exact hsv q
        · rw [tb_0 hS.2.1 hn] at q; cases q
      · have hta := (hS.2.1.2 s hn).2 (by omega)
        have hrec := tb_s hS.2.1 hn (by omega) v
        refine ih (ta T s) (Or.inr ⟨by omega, by omega⟩) (fun ⟨_, q⟩ => h1 ⟨by omega, Or.inr ?_⟩) (fun q => h2 (fun ⟨_, r⟩ => q ⟨by omega, ?_⟩))
        · rw [hrec, Bool.or_eq_true]
          rcases q with q | q
          · exact Or.inl (decide_eq_true q)
          · exact Or.inr q
        · rcases r with r | r
          · exact absurd r hsv
          · rw [hrec, Bool.or_eq_true] at r
            rcases r with r | r
            · exact Or.inl (of_decide_eq_true r)
            · exact Or.inr r
theorem S_Md_isBelow {d l v : Nat} {T : xT} {w : xWd} {Q : xMV → xWd → Prop} (hS : tS w T) (hl : l < tn T) (hv : v < 8) (h1 : tb T l v = true → Q (xI 1) w) (h2 : ¬ tb T l v = true → Q (xI 0) w) : xWp d m_Md_isBelow 0 [xA 7 2, xI (nI l), xI (nI v), xU] [] w Q := by
  have h8 := tS_n8 hS
  refine G_Md_isBelow_0 ⟨z_in (by omega) (by decide), ?_⟩
  rw [tM_a hS hl]
  by_cases e0 : l = 0
  · subst e0
    have hta := (hS.2.1.2 0 hl).1 rfl
    exact L_Md_isBelow hS hv 8 _ (Or.inl hta) (fun ⟨q, _⟩ => by omega) (fun _ => h2 (by rw [tb_0 hS.2.1 hl]; exact Bool.false_ne_true))
  · have hta := (hS.2.1.2 l hl).2 (by omega)
    have hrec := tb_s hS.2.1 hl (by omega) v
    refine L_Md_isBelow hS hv 8 _ (Or.inr ⟨by omega, by omega⟩) (fun ⟨_, q⟩ => h1 ?_) (fun q => h2 (fun r => q ⟨by omega, ?_⟩))
    · rw [hrec, Bool.or_eq_true]
      rcases q with q | q
      · exact Or.inl (decide_eq_true q)
      · exact Or.inr q
    · rw [hrec, Bool.or_eq_true] at r
      rcases r with r | r
      · exact Or.inl (of_decide_eq_true r)
      · exact Or.inr r
theorem G_Md_isUser_0 {d : Nat} {x1 : Int32} {x2 : Int32} {w : xWd} {Q : xMV → xWd → Prop} (h : xWp d m_Md_isUser 2 [xA 7 2, xI x1, xI x2, xI 0] [] w Q) : xWp d m_Md_isUser 0 [xA 7 2, xI x1, xI x2, xU] [] w Q := by
  refine x_goN 2 (pc' := 2) (ls' := [xA 7 2, xI x1, xI x2, xI 0]) (st' := []) (w' := w) rfl ?_
  exact h
theorem G_Md_isUser_2 {d : Nat} {x1 : Int32} {x2 : Int32} {x3 : Int32} {w : xWd} {Q : xMV → xWd → Prop} (h : (vp_in x1 8 ∧ ((w 73 x1.toNatClampNeg ≤ x3 → Q (xI 0) w) ∧ (¬ (w 73 x1.toNatClampNeg ≤ x3) → (vp_in ((2 * x1) + x3) 16 ∧ ((w 74 ((2 * x1) + x3).toNatClampNeg = x2 → Q (xI 1) w) ∧ (¬ (w 74 ((2 * x1) + x3).toNatClampNeg = x2) → xWp d m_Md_isUser 2 [xA 7 2, xI x1, xI x2, xI (x3 + 1)] [] w Q))))))) : xWp d m_Md_isUser 2 [xA 7 2, xI x1, xI x2, xI x3] [] w Q := by
  refine x_goN 4 (pc' := 8) (ls' := [xA 7 2, xI x1, xI x2, xI x3]) (st' := [xI x1, xA 108 73, xI x3]) (w' := w) rfl ?_
  refine x_ob (P := vp_in x1 8) (pc' := 9) (ls' := [xA 7 2, xI x1, xI x2, xI x3]) (st' := [xI (w 73 x1.toNatClampNeg), xI x3]) (w' := w) rfl h.1 ?_
  refine x_goN 1 (pc' := if w 73 x1.toNatClampNeg ≤ x3 then 34 else 12) (ls' := [xA 7 2, xI x1, xI x2, xI x3]) (st' := []) (w' := w) rfl ?_
  refine x_br (fun c1 => ?_) (fun c1 => ?_)
  · skip
    refine x_goN 1 (pc' := 35) (ls' := [xA 7 2, xI x1, xI x2, xI x3]) (st' := [xI 0]) (w' := w) rfl ?_
    exact x_ret (P := (0 : Int32) = 0 ∨ (0 : Int32) = 1) rfl (by decide) (h.2.1 c1)
  · skip
    refine x_goN 7 (pc' := 21) (ls' := [xA 7 2, xI x1, xI x2, xI x3]) (st' := [xI ((2 * x1) + x3), xA 116 74]) (w' := w) rfl ?_
    refine x_ob (P := vp_in ((2 * x1) + x3) 16) (pc' := 22) (ls' := [xA 7 2, xI x1, xI x2, xI x3]) (st' := [xI (w 74 ((2 * x1) + x3).toNatClampNeg)]) (w' := w) rfl (h.2.2 c1).1 ?_
    refine x_goN 2 (pc' := if w 74 ((2 * x1) + x3).toNatClampNeg = x2 then 26 else 28) (ls' := [xA 7 2, xI x1, xI x2, xI x3]) (st' := []) (w' := w) rfl ?_
    refine x_br (fun c2 => ?_) (fun c2 => ?_)
    · skip
      refine x_goN 1 (pc' := 27) (ls' := [xA 7 2, xI x1, xI x2, xI x3]) (st' := [xI 1]) (w' := w) rfl ?_
      exact x_ret (P := (1 : Int32) = 0 ∨ (1 : Int32) = 1) rfl (by decide) ((h.2.2 c1).2.1 c2)
    · skip
      refine x_goN 2 (pc' := 2) (ls' := [xA 7 2, xI x1, xI x2, xI (x3 + 1)]) (st' := []) (w' := w) rfl ?_
      exact ((h.2.2 c1).2.2 c2)
theorem tr_iff {T : xT} {l v : Nat} (hm : tm T l ≤ 2) : tr T l v = true ↔ ∃ j, j < tm T l ∧ tu T (2 * l + j) = v := by
  unfold tr
  rw [Bool.or_eq_true, Bool.and_eq_true, Bool.and_eq_true]
  simp only [decide_eq_true_eq]
  constructor
  · rintro (⟨a, b⟩ | ⟨a, b⟩)
    · exact ⟨0, a, b⟩
    · exact ⟨1, a, b⟩
  · rintro ⟨j, a, b⟩
    rcases (show j = 0 ∨ j = 1 by omega) with rfl | rfl
    · exact Or.inl ⟨a, b⟩
    · exact Or.inr ⟨a, b⟩
theorem z_2l {l i : Nat} : (2 : Int32) * nI l + nI i = nI (2 * l + i) := by
  rw [show (2 : Int32) * nI l = nI (2 * l) from pk_mul 2 l, nI_add]
theorem tu_lt {T : xT} (h : tW T) {l i : Nat} (hl : l < tn T) (hi : i < tm T l) : tu T (2 * l + i) < 8 := by
  have := tb_lt' h.1 hl ((h.2 l hl).2.2.1 i hi)
  have := h.1.1
  omega
theorem L_Md_isUser {d l v : Nat} {T : xT} {w : xWd} {Q : xMV → xWd → Prop} (hS : tS w T) (hl : l < tn T) (hv : v < 8) (h1 : tr T l v = true → Q (xI 1) w) (h2 : ¬ tr T l v = true → Q (xI 0) w) : ∀ k i : Nat, i + k = tm T l → (∀ j, j < i → tu T (2 * l + j) ≠ v) → xWp d m_Md_isUser 2 [xA 7 2, xI (nI l), xI (nI v), xI (nI i)] [] w Q := by
  have h8 := tS_n8 hS
  have hm := tS_m2 hS hl
  intro k
  induction k with
  | zero =>
    intro i hi hb
    refine G_Md_isUser_2 ⟨z_in (by omega) (by decide), fun _ => h2 (fun q => ?_), fun c => absurd ?_ c⟩
    · obtain ⟨j, a, b⟩ := (tr_iff hm).mp q
      exact hb j (by omega) b
    · rw [tM_m hS hl, z_le (by omega) (by omega)]; omega
  | succ k ih =>
    intro i hi hb
    have hu := tu_lt hS.2 hl (show i < tm T l by omega)
    refine G_Md_isUser_2 ⟨z_in (by omega) (by decide), fun c => absurd c ?_, fun c => ?_⟩
    · rw [tM_m hS hl, z_le (by omega) (by omega)]; omega
    · rw [z_2l, z_cl' (by omega), tM_u hS hl (by omega), nI_1]
      refine ⟨z_in (by omega) (by decide), fun c2 => h1 ((tr_iff hm).mpr ⟨i, by omega, (z_eq (by omega) (by omega)).mp c2⟩), fun c2 => ih (i + 1) (by omega) (fun j hj => ?_)⟩
      by_cases e : j = i
      · subst e; exact fun q => c2 ((z_eq (by omega) (by omega)).mpr q)
      · exact hb j (by omega)
theorem S_Md_isUser {d l v : Nat} {T : xT} {w : xWd} {Q : xMV → xWd → Prop} (hS : tS w T) (hl : l < tn T) (hv : v < 8) (h1 : tr T l v = true → Q (xI 1) w) (h2 : ¬ tr T l v = true → Q (xI 0) w) : xWp d m_Md_isUser 0 [xA 7 2, xI (nI l), xI (nI v), xU] [] w Q :=
  G_Md_isUser_0 (L_Md_isUser hS hl hv h1 h2 (tm T l) 0 (Nat.zero_add _) (fun j hj => absurd hj (Nat.not_lt_zero _)))
theorem z_or0 (x : Int32) : x ||| 0 = x := by
  apply Int32.toBitVec_inj.1
  show x.toBitVec ||| 0#32 = x.toBitVec
  exact BitVec.or_zero
theorem z_add0 (x : Int32) : x + 0 = x := Int32.add_zero x
theorem n_10 : ¬ (1 : Int32) = 0 := by decide
theorem G_Md_usersOf_0 {d : Nat} {x1 : Int32} {w : xWd} {Q : xMV → xWd → Prop} (h : xWp (d + 1) m_Md_usersOf 4 [xA 7 2, xI x1, xI 0, xI 0] [] w Q) : xWp (d + 1) m_Md_usersOf 0 [xA 7 2, xI x1, xU, xU] [] w Q := by
  refine x_goN 4 (pc' := 4) (ls' := [xA 7 2, xI x1, xI 0, xI 0]) (st' := []) (w' := w) rfl ?_
  exact h
theorem G_Md_usersOf_4 {d : Nat} {x1 : Int32} {x2 : Int32} {x3 : Int32} {w : xWd} {Q : xMV → xWd → Prop} (h : ((w 2 5 ≤ x3 → Q (xI x2) w) ∧ (¬ (w 2 5 ≤ x3) → xWp d m_Md_isUser 0 [xA 7 2, xI x3, xI x1, xU] [] w (fun a w' => xWp (d + 1) m_Md_usersOf 19 [xA 7 2, xI x1, xI x2, xI x3] (x_pu a [xI x2]) w' Q)))) : xWp (d + 1) m_Md_usersOf 4 [xA 7 2, xI x1, xI x2, xI x3] [] w Q := by
  refine x_goN 4 (pc' := if w 2 5 ≤ x3 then 37 else 12) (ls' := [xA 7 2, xI x1, xI x2, xI x3]) (st' := []) (w' := w) rfl ?_
  refine x_br (fun c1 => ?_) (fun c1 => ?_)
  · skip
    refine x_goN 1 (pc' := 38) (ls' := [xA 7 2, xI x1, xI x2, xI x3]) (st' := [xI x2]) (w' := w) rfl ?_
    exact x_ret (P := True) rfl trivial (h.1 c1)
  · skip
    refine x_goN 4 (pc' := 16) (ls' := [xA 7 2, xI x1, xI x2, xI x3]) (st' := [xI x1, xI x3, xA 7 2, xI x2]) (w' := w) rfl ?_
    refine x_call (y := m_Md_isUser) (as := [xA 7 2, xI x3, xI x1]) (rst := [xI x2]) rfl [xA 7 2, xI x3, xI x1, xU] rfl ?_
    exact (h.2 c1)
theorem G_Md_usersOf_19 {d : Nat} {x1 : Int32} {x2 : Int32} {x3 : Int32} {s1 : Int32} {s0 : Int32} {w : xWd} {Q : xMV → xWd → Prop} (h : ((s1 = 0 → xWp (d + 1) m_Md_usersOf 4 [xA 7 2, xI x1, xI (s0 ||| 0), xI (x3 + 1)] [] w Q) ∧ (¬ (s1 = 0) → xWp (d + 1) m_Md_usersOf 4 [xA 7 2, xI x1, xI (s0 ||| ((1 : Int32) <<< (x3 &&& 31))), xI (x3 + 1)] [] w Q))) : xWp (d + 1) m_Md_usersOf 19 [xA 7 2, xI x1, xI x2, xI x3] [xI s1, xI s0] w Q := by
  refine x_goN 1 (pc' := if s1 = 0 then 28 else 22) (ls' := [xA 7 2, xI x1, xI x2, xI x3]) (st' := [xI s0]) (w' := w) rfl ?_
  refine x_br (fun c1 => ?_) (fun c1 => ?_)
  · skip
    refine x_goN 5 (pc' := 4) (ls' := [xA 7 2, xI x1, xI (s0 ||| 0), xI (x3 + 1)]) (st' := []) (w' := w) rfl ?_
    exact (h.1 c1)
  · skip
    refine x_goN 8 (pc' := 4) (ls' := [xA 7 2, xI x1, xI (s0 ||| ((1 : Int32) <<< (x3 &&& 31))), xI (x3 + 1)]) (st' := []) (w' := w) rfl ?_
    exact (h.2 c1)
theorem L_Md_usersOf {d v : Nat} {T : xT} {w : xWd} {Q : xMV → xWd → Prop} (hS : tS w T) (hv : v < 8) (h : Q (xI (nI (mUs T v))) w) : ∀ k l : Nat, l + k = tn T → xWp (d + 1) m_Md_usersOf 4 [xA 7 2, xI (nI v), xI (nI (z_mk l (fun m => tr T m v))), xI (nI l)] [] w Q := by
  have h8 := tS_n8 hS
  intro k
  induction k with
  | zero =>
    intro l hl
    have e : l = tn T := by omega
    subst e
    exact G_Md_usersOf_4 ⟨fun _ => h, fun c => absurd (tS_end hS) c⟩
  | succ k ih =>
    intro l hl
    have hlt : l < tn T := by omega
    refine G_Md_usersOf_4 ⟨fun c => absurd c (tS_ge hS hlt), fun c => S_Md_isUser hS hlt hv (fun hp => ?_) (fun hp => ?_)⟩
    · refine G_Md_usersOf_19 ⟨fun c => absurd c n_10, fun _ => ?_⟩
      rw [z_shl l (by omega), z_mk_or (p := fun m => tr T m v) hp, nI_1]
      exact ih (l + 1) (by omega)
    · refine G_Md_usersOf_19 ⟨fun _ => ?_, fun c => absurd rfl c⟩
      rw [z_or0, z_mk_no (p := fun m => tr T m v) hp, nI_1]
      exact ih (l + 1) (by omega)
theorem S_Md_usersOf {d v : Nat} {T : xT} {w : xWd} {Q : xMV → xWd → Prop} (hS : tS w T) (hv : v < 8) (h : Q (xI (nI (mUs T v))) w) : xWp (d + 1) m_Md_usersOf 0 [xA 7 2, xI (nI v), xU, xU] [] w Q :=
  G_Md_usersOf_0 (L_Md_usersOf hS hv h (tn T) 0 (Nat.zero_add _))
theorem G_Md_size_0 {d : Nat} {x0 : Int32} {w : xWd} {Q : xMV → xWd → Prop} (h : xWp d m_Md_size 4 [xI x0, xI 0, xI x0] [] w Q) : xWp d m_Md_size 0 [xI x0, xU, xU] [] w Q := by
  refine x_goN 4 (pc' := 4) (ls' := [xI x0, xI 0, xI x0]) (st' := []) (w' := w) rfl ?_
  exact h
theorem G_Md_size_4 {d : Nat} {x0 : Int32} {x1 : Int32} {x2 : Int32} {w : xWd} {Q : xMV → xWd → Prop} (h : ((x2 ≤ 0 → Q (xI x1) w) ∧ (¬ (x2 ≤ 0) → xWp d m_Md_size 4 [xI x0, xI (x1 + (x2 &&& 1)), xI (x2 >>> ((1 : Int32) &&& 31))] [] w Q))) : xWp d m_Md_size 4 [xI x0, xI x1, xI x2] [] w Q := by
  refine x_goN 2 (pc' := if x2 ≤ 0 then 21 else 8) (ls' := [xI x0, xI x1, xI x2]) (st' := []) (w' := w) rfl ?_
  refine x_br (fun c1 => ?_) (fun c1 => ?_)
  · skip
    refine x_goN 1 (pc' := 22) (ls' := [xI x0, xI x1, xI x2]) (st' := [xI x1]) (w' := w) rfl ?_
    exact x_ret (P := True) rfl trivial (h.1 c1)
  · skip
    refine x_goN 11 (pc' := 4) (ls' := [xI x0, xI (x1 + (x2 &&& 1)), xI (x2 >>> ((1 : Int32) &&& 31))]) (st' := []) (w' := w) rfl ?_
    exact (h.2 c1)
theorem z_pc_half : ∀ r, r < 256 → z_pc r = r % 2 + z_pc (r / 2) := by decide +kernel
theorem z_half {r : Nat} (h : r < 256) : nI r >>> ((1 : Int32) &&& 31) = nI (r / 2) := by
  have := pk_shrN (n := r) (by omega) ((1 : Int32) &&& 31) 1 (by decide)
  rw [Nat.pow_one] at this
  exact this
theorem z_low (r : Nat) : nI r &&& 1 = nI (r % 2) := by
  rw [show nI r &&& 1 = nI (r &&& 1) from fa_and r 1, Nat.and_one_is_mod]
theorem L_Md_size {d : Nat} {x : Int32} {w : xWd} {Q : xMV → xWd → Prop} : ∀ (f r a : Nat), r < 2 ^ f → r < 256 → Q (xI (nI (a + z_pc r))) w → xWp d m_Md_size 4 [xI x, xI (nI a), xI (nI r)] [] w Q := by
  intro f
  induction f with
  | zero =>
    intro r a hr h8 hq
    have e : r = 0 := by omega
    subst e
    exact G_Md_size_4 ⟨fun _ => hq, fun c => absurd (by decide) c⟩
  | succ f ih =>
    intro r a hr h8 hq
    refine G_Md_size_4 ⟨fun c => ?_, fun c => ?_⟩
    · have e : r = 0 := by have := (z_le (b := 0) (by omega) (by decide)).mp c; omega
      subst e
      exact hq
    · rw [z_low, z_half h8, nI_add]
      refine ih (r / 2) (a + r % 2) (by rw [Nat.pow_succ] at hr; omega) (by omega) ?_
      rw [Nat.add_assoc, ← z_pc_half r h8]
      exact hq
theorem S_Md_size {d m : Nat} (hm : m < 256) {w : xWd} {Q : xMV → xWd → Prop} (h : Q (xI (nI (z_pc m))) w) : xWp d m_Md_size 0 [xI (nI m), xU, xU] [] w Q :=
  G_Md_size_0 (L_Md_size 8 m 0 hm hm (by rw [Nat.zero_add]; exact h))
theorem G_Md_costOf_0 {d : Nat} {x1 : Int32} {w : xWd} {Q : xMV → xWd → Prop} (h : xWp (d + 1) m_Md_usersOf 0 [xA 7 2, xI x1, xU, xU] [] w (fun a w' => xWp (d + 2) m_Md_costOf 5 [xA 7 2, xI x1, xU] (x_pu a []) w' Q)) : xWp (d + 2) m_Md_costOf 0 [xA 7 2, xI x1, xU] [] w Q := by
  refine x_goN 2 (pc' := 2) (ls' := [xA 7 2, xI x1, xU]) (st' := [xI x1, xA 7 2]) (w' := w) rfl ?_
  refine x_call (y := m_Md_usersOf) (as := [xA 7 2, xI x1]) (rst := []) rfl [xA 7 2, xI x1, xU, xU] rfl ?_
  exact h
theorem G_Md_costOf_5 {d : Nat} {x1 : Int32} {s0 : Int32} {w : xWd} {Q : xMV → xWd → Prop} (h : xWp (d + 1) m_Md_size 0 [xI s0, xU, xU] [] w (fun a w' => xWp (d + 2) m_Md_costOf 8 [xA 7 2, xI x1, xU] (x_pu a []) w' Q)) : xWp (d + 2) m_Md_costOf 5 [xA 7 2, xI x1, xU] [xI s0] w Q := by
  refine x_call (y := m_Md_size) (as := [xI s0]) (rst := []) rfl [xI s0, xU, xU] rfl ?_
  exact h
theorem G_Md_costOf_8 {d : Nat} {x1 : Int32} {s0 : Int32} {w : xWd} {Q : xMV → xWd → Prop} (h : (vp_in x1 8 ∧ ((w 71 x1.toNatClampNeg = 0 → Q (xI s0) w) ∧ (¬ (w 71 x1.toNatClampNeg = 0) → (vp_in x1 8 ∧ ((w 71 x1.toNatClampNeg = 1 → Q (xI (s0 + 1)) w) ∧ (¬ (w 71 x1.toNatClampNeg = 1) → Q (xI (2 * s0)) w))))))) : xWp (d + 2) m_Md_costOf 8 [xA 7 2, xI x1, xU] [xI s0] w Q := by
  refine x_goN 4 (pc' := 14) (ls' := [xA 7 2, xI x1, xI s0]) (st' := [xI x1, xA 108 71]) (w' := w) rfl ?_
  refine x_ob (P := vp_in x1 8) (pc' := 15) (ls' := [xA 7 2, xI x1, xI s0]) (st' := [xI (w 71 x1.toNatClampNeg)]) (w' := w) rfl h.1 ?_
  refine x_goN 1 (pc' := if w 71 x1.toNatClampNeg = 0 then 18 else 22) (ls' := [xA 7 2, xI x1, xI s0]) (st' := []) (w' := w) rfl ?_
  refine x_br (fun c1 => ?_) (fun c1 => ?_)
  · skip
    refine x_goN 2 (pc' := 41) (ls' := [xA 7 2, xI x1, xI s0]) (st' := [xI s0]) (w' := w) rfl ?_
    exact x_ret (P := True) rfl trivial (h.2.1 c1)
  · skip
    refine x_goN 3 (pc' := 27) (ls' := [xA 7 2, xI x1, xI s0]) (st' := [xI x1, xA 108 71]) (w' := w) rfl ?_
    refine x_ob (P := vp_in x1 8) (pc' := 28) (ls' := [xA 7 2, xI x1, xI s0]) (st' := [xI (w 71 x1.toNatClampNeg)]) (w' := w) rfl (h.2.2 c1).1 ?_
    refine x_goN 2 (pc' := if w 71 x1.toNatClampNeg = 1 then 32 else 38) (ls' := [xA 7 2, xI x1, xI s0]) (st' := []) (w' := w) rfl ?_
    refine x_br (fun c2 => ?_) (fun c2 => ?_)
    · skip
      refine x_goN 4 (pc' := 41) (ls' := [xA 7 2, xI x1, xI s0]) (st' := [xI (s0 + 1)]) (w' := w) rfl ?_
      exact x_ret (P := True) rfl trivial ((h.2.2 c1).2.1 c2)
    · skip
      refine x_goN 3 (pc' := 41) (ls' := [xA 7 2, xI x1, xI s0]) (st' := [xI (2 * s0)]) (w' := w) rfl ?_
      exact x_ret (P := True) rfl trivial ((h.2.2 c1).2.2 c2)
theorem S_Md_costOf {d v : Nat} {T : xT} {w : xWd} {Q : xMV → xWd → Prop} (hS : tS w T) (hv : v < tn T) (h : Q (xI (nI (tCo T v))) w) : xWp (d + 2) m_Md_costOf 0 [xA 7 2, xI (nI v), xU] [] w Q := by
  have h8 := tS_n8 hS
  have hk := (hS.2.2 v hv).1
  refine G_Md_costOf_0 (S_Md_usersOf hS (by omega) ?_)
  refine G_Md_costOf_5 (S_Md_size (mUs_lt h8 v) ?_)
  refine G_Md_costOf_8 ⟨z_in (by omega) (by decide), ?_⟩
  rw [tM_k hS hv]
  unfold tCo at h
  refine ⟨fun c => ?_, fun c => ⟨z_in (by omega) (by decide), fun c2 => ?_, fun c2 => ?_⟩⟩
  · have e : tk T v = 0 := (z_eq (b := 0) (by omega) (by decide)).mp c
    rw [if_neg (by omega), if_neg (by omega)] at h
    exact h
  · have e : tk T v = 1 := (z_eq (b := 1) (by omega) (by decide)).mp c2
    rw [if_neg (by omega), if_pos e] at h
    rw [nI_1]; exact h
  · have e : tk T v = 2 := by
      have h0 : tk T v ≠ 0 := fun e => c (by rw [e]; rfl)
      have h1 : tk T v ≠ 1 := fun e => c2 (by rw [e]; rfl)
      omega
    rw [if_pos e] at h
    rw [show (2 : Int32) * nI (z_pc (mUs T v)) = nI (2 * z_pc (mUs T v)) from pk_mul 2 _]; exact h

