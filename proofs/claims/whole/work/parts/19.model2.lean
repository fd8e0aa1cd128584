/-! THE MODEL'S LINES: later uses, live values, crossings, colours -/
theorem G_Md_laterUse_0 {d : Nat} {x1 : Int32} {x2 : Int32} {w : xWd} {Q : xMV → xWd → Prop} (h : xWp (d + 1) m_Md_laterUse 8 [xA 7 2, xI x1, xI x2, xI (-9), xI (x1 + 1), xU, xU] [] w Q) : xWp (d + 1) m_Md_laterUse 0 [xA 7 2, xI x1, xI x2, xU, xU, xU, xU] [] w Q := by
  refine x_goN 6 (pc' := 8) (ls' := [xA 7 2, xI x1, xI x2, xI (-9), xI (x1 + 1), xU, xU]) (st' := []) (w' := w) rfl ?_
  exact h
theorem G_Md_laterUse_8 {d : Nat} {x1 : Int32} {x2 : Int32} {x3 : Int32} {x4 : Int32} {w : xWd} {Q : xMV → xWd → Prop} (h : ((w 2 5 ≤ x4 → Q (xI x3) w) ∧ (¬ (w 2 5 ≤ x4) → xWp d m_Md_isUser 0 [xA 7 2, xI x4, xI x2, xU] [] w (fun a w' => xWp (d + 1) m_Md_laterUse 24 [xA 7 2, xI x1, xI x2, xI x3, xI x4, xU, xU] (x_pu a []) w' Q)))) : xWp (d + 1) m_Md_laterUse 8 [xA 7 2, xI x1, xI x2, xI x3, xI x4, xU, xU] [] w Q := by
  refine x_goN 4 (pc' := if w 2 5 ≤ x4 then 95 else 17) (ls' := [xA 7 2, xI x1, xI x2, xI x3, xI x4, xU, xU]) (st' := []) (w' := w) rfl ?_
  refine x_br (fun c1 => ?_) (fun c1 => ?_)
  · skip
    refine x_goN 1 (pc' := 96) (ls' := [xA 7 2, xI x1, xI x2, xI x3, xI x4, xU, xU]) (st' := [xI x3]) (w' := w) rfl ?_
    exact x_ret (P := True) rfl trivial (h.1 c1)
  · skip
    refine x_goN 3 (pc' := 21) (ls' := [xA 7 2, xI x1, xI x2, xI x3, xI x4, xU, xU]) (st' := [xI x2, xI x4, xA 7 2]) (w' := w) rfl ?_
    refine x_call (y := m_Md_isUser) (as := [xA 7 2, xI x4, xI x2]) (rst := []) rfl [xA 7 2, xI x4, xI x2, xU] rfl ?_
    exact (h.2 c1)
theorem G_Md_laterUse_24 {d : Nat} {x1 : Int32} {x2 : Int32} {x3 : Int32} {x4 : Int32} {s0 : Int32} {w : xWd} {Q : xMV → xWd → Prop} (h : ((s0 = 0 → xWp (d + 1) m_Md_laterUse 8 [xA 7 2, xI x1, xI x2, xI x3, xI (x4 + 1), xU, xU] [] w Q) ∧ (¬ (s0 = 0) → xWp d m_Md_isBelow 0 [xA 7 2, xI x4, xI x1, xU] [] w (fun a w' => xWp (d + 1) m_Md_laterUse 34 [xA 7 2, xI x1, xI x2, xI x3, xI x4, xU, xU] (x_pu a []) w' Q)))) : xWp (d + 1) m_Md_laterUse 24 [xA 7 2, xI x1, xI x2, xI x3, xI x4, xU, xU] [xI s0] w Q := by
  refine x_goN 1 (pc' := if s0 = 0 then 89 else 27) (ls' := [xA 7 2, xI x1, xI x2, xI x3, xI x4, xU, xU]) (st' := []) (w' := w) rfl ?_
  refine x_br (fun c1 => ?_) (fun c1 => ?_)
  · skip
    refine x_goN 2 (pc' := 8) (ls' := [xA 7 2, xI x1, xI x2, xI x3, xI (x4 + 1), xU, xU]) (st' := []) (w' := w) rfl ?_
    exact (h.1 c1)
  · skip
    refine x_goN 3 (pc' := 31) (ls' := [xA 7 2, xI x1, xI x2, xI x3, xI x4, xU, xU]) (st' := [xI x1, xI x4, xA 7 2]) (w' := w) rfl ?_
    refine x_call (y := m_Md_isBelow) (as := [xA 7 2, xI x4, xI x1]) (rst := []) rfl [xA 7 2, xI x4, xI x1, xU] rfl ?_
    exact (h.2 c1)
theorem G_Md_laterUse_34 {d : Nat} {x1 : Int32} {x2 : Int32} {x3 : Int32} {x4 : Int32} {s0 : Int32} {w : xWd} {Q : xMV → xWd → Prop} (h : ((s0 = 0 → xWp (d + 1) m_Md_laterUse 8 [xA 7 2, xI x1, xI x2, xI x3, xI (x4 + 1), xU, xU] [] w Q) ∧ (¬ (s0 = 0) → (vp_in x4 8 ∧ xWp (d + 1) m_Md_laterUse 49 [xA 7 2, xI x1, xI x2, xI x3, xI x4, xI 1, xI (w 72 x4.toNatClampNeg)] [] w Q)))) : xWp (d + 1) m_Md_laterUse 34 [xA 7 2, xI x1, xI x2, xI x3, xI x4, xU, xU] [xI s0] w Q := by
  refine x_goN 1 (pc' := if s0 = 0 then 89 else 37) (ls' := [xA 7 2, xI x1, xI x2, xI x3, xI x4, xU, xU]) (st' := []) (w' := w) rfl ?_
  refine x_br (fun c1 => ?_) (fun c1 => ?_)
  · skip
    refine x_goN 2 (pc' := 8) (ls' := [xA 7 2, xI x1, xI x2, xI x3, xI (x4 + 1), xU, xU]) (st' := []) (w' := w) rfl ?_
    exact (h.1 c1)
  · skip
    refine x_goN 5 (pc' := 46) (ls' := [xA 7 2, xI x1, xI x2, xI x3, xI x4, xI 1, xU]) (st' := [xI x4, xA 108 72]) (w' := w) rfl ?_
    refine x_ob (P := vp_in x4 8) (pc' := 47) (ls' := [xA 7 2, xI x1, xI x2, xI x3, xI x4, xI 1, xU]) (st' := [xI (w 72 x4.toNatClampNeg)]) (w' := w) rfl (h.2 c1).1 ?_
    refine x_goN 1 (pc' := 49) (ls' := [xA 7 2, xI x1, xI x2, xI x3, xI x4, xI 1, xI (w 72 x4.toNatClampNeg)]) (st' := []) (w' := w) rfl ?_
    exact (h.2 c1).2
theorem G_Md_laterUse_49 {d : Nat} {x1 : Int32} {x2 : Int32} {x3 : Int32} {x4 : Int32} {x5 : Int32} {x6 : Int32} {w : xWd} {Q : xMV → xWd → Prop} (h : ((x6 = x1 → ((x3 = (-9) → xWp (d + 1) m_Md_laterUse 8 [xA 7 2, xI x1, xI x2, xI x5, xI (x4 + 1), xU, xU] [] w Q) ∧ (¬ (x3 = (-9)) → ((x3 ≤ x5 → xWp (d + 1) m_Md_laterUse 8 [xA 7 2, xI x1, xI x2, xI x3, xI (x4 + 1), xU, xU] [] w Q) ∧ (¬ (x3 ≤ x5) → xWp (d + 1) m_Md_laterUse 8 [xA 7 2, xI x1, xI x2, xI x5, xI (x4 + 1), xU, xU] [] w Q))))) ∧ (¬ (x6 = x1) → (vp_in x6 8 ∧ xWp (d + 1) m_Md_laterUse 49 [xA 7 2, xI x1, xI x2, xI x3, xI x4, xI (x5 + 1), xI (w 72 x6.toNatClampNeg)] [] w Q)))) : xWp (d + 1) m_Md_laterUse 49 [xA 7 2, xI x1, xI x2, xI x3, xI x4, xI x5, xI x6] [] w Q := by
  refine x_goN 3 (pc' := if x6 = x1 then 70 else 55) (ls' := [xA 7 2, xI x1, xI x2, xI x3, xI x4, xI x5, xI x6]) (st' := []) (w' := w) rfl ?_
  refine x_br (fun c1 => ?_) (fun c1 => ?_)
  · skip
    refine x_goN 3 (pc' := if x3 = (-9) then 82 else 76) (ls' := [xA 7 2, xI x1, xI x2, xI x3, xI x4, xI x5, xI x6]) (st' := []) (w' := w) rfl ?_
    refine x_br (fun c2 => ?_) (fun c2 => ?_)
    · skip
      refine x_goN 5 (pc' := 8) (ls' := [xA 7 2, xI x1, xI x2, xI x5, xI (x4 + 1), xI x5, xI x6]) (st' := []) (w' := w) rfl ?_
      exact x_weak (((h.1 c1).1 c2)) ⟨Or.inl rfl, Or.inl rfl, Or.inl rfl, Or.inl rfl, Or.inl rfl, Or.inr ⟨rfl, rfl⟩, Or.inr ⟨rfl, rfl⟩, trivial⟩
    · skip
      refine x_goN 3 (pc' := if x3 ≤ x5 then 87 else 82) (ls' := [xA 7 2, xI x1, xI x2, xI x3, xI x4, xI x5, xI x6]) (st' := []) (w' := w) rfl ?_
      refine x_br (fun c3 => ?_) (fun c3 => ?_)
      · skip
        refine x_goN 4 (pc' := 8) (ls' := [xA 7 2, xI x1, xI x2, xI x3, xI (x4 + 1), xI x5, xI x6]) (st' := []) (w' := w) rfl ?_
        exact x_weak ((((h.1 c1).2 c2).1 c3)) ⟨Or.inl rfl, Or.inl rfl, Or.inl rfl, Or.inl rfl, Or.inl rfl, Or.inr ⟨rfl, rfl⟩, Or.inr ⟨rfl, rfl⟩, trivial⟩
      · skip
        refine x_goN 5 (pc' := 8) (ls' := [xA 7 2, xI x1, xI x2, xI x5, xI (x4 + 1), xI x5, xI x6]) (st' := []) (w' := w) rfl ?_
        exact x_weak ((((h.1 c1).2 c2).2 c3)) ⟨Or.inl rfl, Or.inl rfl, Or.inl rfl, Or.inl rfl, Or.inl rfl, Or.inr ⟨rfl, rfl⟩, Or.inr ⟨rfl, rfl⟩, trivial⟩
  · skip
    refine x_goN 4 (pc' := 64) (ls' := [xA 7 2, xI x1, xI x2, xI x3, xI x4, xI (x5 + 1), xI x6]) (st' := [xI x6, xA 108 72]) (w' := w) rfl ?_
    refine x_ob (P := vp_in x6 8) (pc' := 65) (ls' := [xA 7 2, xI x1, xI x2, xI x3, xI x4, xI (x5 + 1), xI x6]) (st' := [xI (w 72 x6.toNatClampNeg)]) (w' := w) rfl (h.2 c1).1 ?_
    refine x_goN 2 (pc' := 49) (ls' := [xA 7 2, xI x1, xI x2, xI x3, xI x4, xI (x5 + 1), xI (w 72 x6.toNatClampNeg)]) (st' := []) (w' := w) rfl ?_
    exact (h.2 c1).2
/-- up from s to l: as many steps as the depths differ by -/
theorem L_Md_laterUse_up {d l v q : Nat} {T : xT} {w : xWd} {Q : xMV → xWd → Prop} {x3 : Int32} (hS : tS w T) (hl : l < tn T) {D : Nat}
    (h : xWp (d + 1) m_Md_laterUse 49 [xA 7 2, xI (nI l), xI (nI v), xI x3, xI (nI q), xI (nI D), xI (nI l)] [] w Q) : ∀ (f s a : Nat), s ≤ f → s < tn T → (s = l ∨ tb T s l = true) → a + td T s = D + td T l → xWp (d + 1) m_Md_laterUse 49 [xA 7 2, xI (nI l), xI (nI v), xI x3, xI (nI q), xI (nI a), xI (nI s)] [] w Q := by
  have h8 := tS_n8 hS
  intro f
  induction f with
  | zero =>
    intro s a hf hs hb ha
    have e : s = 0 := by omega
    subst e
    have : 0 = l := by
      rcases hb with hb | hb
      · exact hb
      · rw [tb_0 hS.2.1 hs] at hb; cases hb
    subst this
    have : a = D := by omega
    subst this
    exact h
  | succ f ih =>
    intro s a hf hs hb ha
    by_cases e : s = l
    · subst e
      have : a = D := by omega
      subst this
      exact h
    · have hb : tb T s l = true := by
        rcases hb with hb | hb
        · exact absurd hb e
        · exact hb
      have hsl := tb_lt' hS.2.1 hs hb
      have hta := (hS.2.1.2 s hs).2 (by omega)
      have htd := td_s hS.2.1 hs (by omega)
      have hrec := tb_s hS.2.1 hs (by omega) l
      rw [hb] at hrec
      have hrec := hrec.symm
      rw [Bool.or_eq_true] at hrec
      refine G_Md_laterUse_49 ⟨fun c => absurd ((z_eq (by omega) (by omega)).mp c) e, fun c => ⟨z_in (by omega) (by decide), ?_⟩⟩
      rw [tM_a hS hs, nI_1]
      refine ih (ta T s) (a + 1) (by omega) (by omega) ?_ (by omega)
      rcases hrec with r | r
      · exact Or.inl (of_decide_eq_true r)
      · exact Or.inr r
theorem L_Md_laterUse {d l v : Nat} {T : xT} {w : xWd} {Q : xMV → xWd → Prop} (hS : tS w T) (hv : v < 8) (hl : l < tn T) (h : Q (xI (luI (tL T l v))) w) : ∀ k m : Nat, m + k = tn T → xWp (d + 1) m_Md_laterUse 8 [xA 7 2, xI (nI l), xI (nI v), xI (luI (z_mn (fun m => tb T m l && tr T m v) (fun m => td T m - td T l) m)), xI (nI m), xU, xU] [] w Q := by
  have h8 := tS_n8 hS
  intro k
  induction k with
  | zero =>
    intro m hm
    have e : m = tn T := by omega
    subst e
    exact G_Md_laterUse_8 ⟨fun _ => h, fun c => absurd (tS_end hS) c⟩
  | succ k ih =>
    intro m hm
    have hlt : m < tn T := by omega
    have hb := z_mn_le (p := fun m => tb T m l && tr T m v) (f := fun m => td T m - td T l) (B := 8) m (fun j hj => by have := td_lt8 hS.2.1 (show j < tn T by omega); omega)
    have hskip : ¬ ((tb T m l && tr T m v) = true) → xWp (d + 1) m_Md_laterUse 8 [xA 7 2, xI (nI l), xI (nI v), xI (luI (z_mn (fun m => tb T m l && tr T m v) (fun m => td T m - td T l) m)), xI (nI m + 1), xU, xU] [] w Q := by
      intro hp
      have := ih (m + 1) (by omega)
      rw [z_mn_s, if_neg hp] at this
      rw [nI_1]; exact this
    refine G_Md_laterUse_8 ⟨fun c => absurd c (tS_ge hS hlt), fun c => S_Md_isUser hS hlt hv (fun p2 => ?_) (fun p2 => ?_)⟩
    · refine G_Md_laterUse_24 ⟨fun c => absurd c n_10, fun _ => S_Md_isBelow hS hlt (by omega) (fun p1 => ?_) (fun p1 => ?_)⟩
      · refine G_Md_laterUse_34 ⟨fun c => absurd c n_10, fun _ => ⟨z_in (by omega) (by decide), ?_⟩⟩
        have hd := tb_td hS.2.1 m m l (Nat.le_refl _) hlt p1
        have hd8 := td_lt8 hS.2.1 hlt
        have hml := tb_lt' hS.2.1 hlt p1
        have hta := (hS.2.1.2 m hlt).2 (by omega)
        have htd := td_s hS.2.1 hlt (by omega)
        have hrec := tb_s hS.2.1 hlt (by omega) l
        rw [p1] at hrec
        have hrec := hrec.symm
        rw [Bool.or_eq_true] at hrec
        rw [tM_a hS hlt]
        refine L_Md_laterUse_up (D := td T m - td T l) hS hl ?_ 8 (ta T m) 1 (by omega) (by omega) ?_ (by omega)
        · have := ih (m + 1) (by omega)
          rw [z_mn_s, if_pos (by rw [p1, p2]; rfl)] at this
          refine G_Md_laterUse_49 ⟨fun _ => ⟨fun c3 => ?_, fun c3 => ?_⟩, fun c => absurd rfl c⟩
          · have e := (luI_9 (by omega)).mp c3
            rw [if_pos e, luI_p (by omega)] at this
            rw [nI_1]; exact this
          · have e : z_mn (fun m => tb T m l && tr T m v) (fun m => td T m - td T l) m ≠ 0 := fun q => c3 ((luI_9 (by omega)).mpr q)
            rw [if_neg e, luI_p (by omega)] at this
            rw [luI_p e, nI_1]
            refine ⟨fun c4 => ?_, fun c4 => ?_⟩
            · rw [z_le (by omega) (by omega)] at c4
              rw [Nat.min_eq_left c4] at this
              exact this
            · rw [z_le (by omega) (by omega)] at c4
              rw [Nat.min_eq_right (by omega)] at this
              exact this
        · rcases hrec with r | r
          · exact Or.inl (of_decide_eq_true r)
          · exact Or.inr r
      · refine G_Md_laterUse_34 ⟨fun _ => hskip (fun q => ?_), fun c => absurd rfl c⟩
        rw [Bool.and_eq_true] at q
        exact p1 q.1
    · refine G_Md_laterUse_24 ⟨fun _ => hskip (fun q => ?_), fun c => absurd rfl c⟩
      rw [Bool.and_eq_true] at q
      exact p2 q.2
theorem z_mn_0 {p : Nat → Bool} {f : Nat → Nat} : ∀ k, (∀ j, j < k → p j = false) → z_mn p f k = 0
  | 0, _ => rfl
  | k + 1, h => by
    rw [z_mn_s, h k (by omega)]
    exact z_mn_0 k (fun j hj => h j (by omega))
theorem z_mn_ne {p : Nat → Bool} {f : Nat → Nat} : ∀ k, (∀ j, j < k → p j = true → 0 < f j) → (z_mn p f k ≠ 0 ↔ z_any k p = true)
  | 0, _ => ⟨fun q => absurd rfl q, fun q => by cases q⟩
  | k + 1, h => by
    have ih := z_mn_ne (p := p) (f := f) k (fun j hj => h j (by omega))
    have hk := h k (by omega)
    show _ ↔ (z_any k p || p k) = true
    rw [Bool.or_eq_true, z_mn_s]
    cases hp : p k with
    | false =>
      rw [if_neg Bool.false_ne_true, ih]
      exact ⟨Or.inl, fun q => q.elim id (fun r => by cases r)⟩
    | true =>
      have := hk hp
      rw [if_pos rfl]
      refine ⟨fun _ => Or.inr rfl, fun _ => ?_⟩
      split <;> omega
theorem S_Md_laterUse {d l v : Nat} {T : xT} {w : xWd} {Q : xMV → xWd → Prop} (hS : tS w T) (hv : v < 8) (hl : l < tn T) (h : Q (xI (luI (tL T l v))) w) : xWp (d + 1) m_Md_laterUse 0 [xA 7 2, xI (nI l), xI (nI v), xU, xU, xU, xU] [] w Q := by
  have := L_Md_laterUse (d := d) hS hv hl h (tn T - (l + 1)) (l + 1) (by omega)
  rw [z_mn_0 (l + 1) (fun j hj => ?_)] at this
  · refine G_Md_laterUse_0 ?_
    rw [nI_1]; exact this
  · show (tb T j l && tr T j v) = false
    cases hb : tb T j l with
    | false => rfl
    | true => have := tb_lt' hS.2.1 (show j < tn T by omega) hb; omega
theorem tL_ub {T : xT} (h : tCh T) {l v : Nat} : tL T l v ≠ 0 ↔ ub T l v = true := by
  unfold tL ub
  apply z_mn_ne
  intro j hj hp
  rw [Bool.and_eq_true] at hp
  have := tb_td h j j l (Nat.le_refl _) hj hp.1
  omega
theorem tL_le {T : xT} (h : tCh T) {l v : Nat} : tL T l v ≤ 8 := by
  unfold tL
  apply z_mn_le
  intro j hj
  have := td_lt8 h hj
  omega
theorem G_Md_liveBehind_0 {d : Nat} {x1 : Int32} {w : xWd} {Q : xMV → xWd → Prop} (h : xWp (d + 2) m_Md_liveBehind 6 [xA 7 2, xI x1, xI ((1 : Int32) <<< (x1 &&& 31)), xI 0] [] w Q) : xWp (d + 2) m_Md_liveBehind 0 [xA 7 2, xI x1, xU, xU] [] w Q := by
  refine x_goN 6 (pc' := 6) (ls' := [xA 7 2, xI x1, xI ((1 : Int32) <<< (x1 &&& 31)), xI 0]) (st' := []) (w' := w) rfl ?_
  exact h
theorem G_Md_liveBehind_6 {d : Nat} {x1 : Int32} {x2 : Int32} {x3 : Int32} {w : xWd} {Q : xMV → xWd → Prop} (h : ((x1 ≤ x3 → Q (xI x2) w) ∧ (¬ (x1 ≤ x3) → xWp (d + 1) m_Md_isBelow 0 [xA 7 2, xI x1, xI x3, xU] [] w (fun a w' => xWp (d + 2) m_Md_liveBehind 18 [xA 7 2, xI x1, xI x2, xI x3] (x_pu a [xI x2]) w' Q)))) : xWp (d + 2) m_Md_liveBehind 6 [xA 7 2, xI x1, xI x2, xI x3] [] w Q := by
  refine x_goN 3 (pc' := if x1 ≤ x3 then 47 else 11) (ls' := [xA 7 2, xI x1, xI x2, xI x3]) (st' := []) (w' := w) rfl ?_
  refine x_br (fun c1 => ?_) (fun c1 => ?_)
  · skip
    refine x_goN 1 (pc' := 48) (ls' := [xA 7 2, xI x1, xI x2, xI x3]) (st' := [xI x2]) (w' := w) rfl ?_
    exact x_ret (P := True) rfl trivial (h.1 c1)
  · skip
    refine x_goN 4 (pc' := 15) (ls' := [xA 7 2, xI x1, xI x2, xI x3]) (st' := [xI x3, xI x1, xA 7 2, xI x2]) (w' := w) rfl ?_
    refine x_call (y := m_Md_isBelow) (as := [xA 7 2, xI x1, xI x3]) (rst := [xI x2]) rfl [xA 7 2, xI x1, xI x3, xU] rfl ?_
    exact (h.2 c1)
theorem G_Md_liveBehind_18 {d : Nat} {x1 : Int32} {x2 : Int32} {x3 : Int32} {s1 : Int32} {s0 : Int32} {w : xWd} {Q : xMV → xWd → Prop} (h : ((s1 = 0 → xWp (d + 2) m_Md_liveBehind 6 [xA 7 2, xI x1, xI (s0 ||| 0), xI (x3 + 1)] [] w Q) ∧ (¬ (s1 = 0) → xWp (d + 1) m_Md_laterUse 0 [xA 7 2, xI x1, xI x3, xU, xU, xU, xU] [] w (fun a w' => xWp (d + 2) m_Md_liveBehind 27 [xA 7 2, xI x1, xI x2, xI x3] (x_pu a [xI s0]) w' Q)))) : xWp (d + 2) m_Md_liveBehind 18 [xA 7 2, xI x1, xI x2, xI x3] [xI s1, xI s0] w Q := by
  refine x_goN 1 (pc' := if s1 = 0 then 38 else 21) (ls' := [xA 7 2, xI x1, xI x2, xI x3]) (st' := [xI s0]) (w' := w) rfl ?_
  refine x_br (fun c1 => ?_) (fun c1 => ?_)
  · skip
    refine x_goN 5 (pc' := 6) (ls' := [xA 7 2, xI x1, xI (s0 ||| 0), xI (x3 + 1)]) (st' := []) (w' := w) rfl ?_
    exact (h.1 c1)
  · skip
    refine x_goN 3 (pc' := 24) (ls' := [xA 7 2, xI x1, xI x2, xI x3]) (st' := [xI x3, xI x1, xA 7 2, xI s0]) (w' := w) rfl ?_
    refine x_call (y := m_Md_laterUse) (as := [xA 7 2, xI x1, xI x3]) (rst := [xI s0]) rfl [xA 7 2, xI x1, xI x3, xU, xU, xU, xU] rfl ?_
    exact (h.2 c1)
theorem G_Md_liveBehind_27 {d : Nat} {x1 : Int32} {x2 : Int32} {x3 : Int32} {s1 : Int32} {s0 : Int32} {w : xWd} {Q : xMV → xWd → Prop} (h : ((s1 = (-9) → xWp (d + 2) m_Md_liveBehind 6 [xA 7 2, xI x1, xI (s0 ||| 0), xI (x3 + 1)] [] w Q) ∧ (¬ (s1 = (-9)) → xWp (d + 2) m_Md_liveBehind 6 [xA 7 2, xI x1, xI (s0 ||| ((1 : Int32) <<< (x3 &&& 31))), xI (x3 + 1)] [] w Q))) : xWp (d + 2) m_Md_liveBehind 27 [xA 7 2, xI x1, xI x2, xI x3] [xI s1, xI s0] w Q := by
  refine x_goN 2 (pc' := if s1 = (-9) then 38 else 32) (ls' := [xA 7 2, xI x1, xI x2, xI x3]) (st' := [xI s0]) (w' := w) rfl ?_
  refine x_br (fun c1 => ?_) (fun c1 => ?_)
  · skip
    refine x_goN 5 (pc' := 6) (ls' := [xA 7 2, xI x1, xI (s0 ||| 0), xI (x3 + 1)]) (st' := []) (w' := w) rfl ?_
    exact (h.1 c1)
  · skip
    refine x_goN 8 (pc' := 6) (ls' := [xA 7 2, xI x1, xI (s0 ||| ((1 : Int32) <<< (x3 &&& 31))), xI (x3 + 1)]) (st' := []) (w' := w) rfl ?_
    exact (h.2 c1)
theorem mLv_up {T : xT} (h : tCh T) {l : Nat} (hl : l < tn T) : nI (2 ^ l) ||| nI (z_mk l (fun v => tb T l v && ub T l v)) = nI (mLv T l) := by
  rw [fa_or]
  congr 1
  apply Nat.eq_of_testBit_eq
  intro i
  unfold mLv
  rw [Nat.testBit_or, Nat.testBit_two_pow, z_mk_tb, z_mk_tb]
  have h8 := h.1
  by_cases hi : i < 8
  · rw [decide_eq_true hi, Bool.true_and]
    rw [show decide (l = i) = decide (i = l) from decide_eq_decide.mpr eq_comm]
    congr 1
    cases hb : tb T l i with
    | false => rw [Bool.false_and, Bool.and_false]
    | true => rw [decide_eq_true (tb_lt' h hl hb), Bool.true_and]
  · rw [decide_eq_false hi, decide_eq_false (by omega), decide_eq_false (by omega)]; rfl
theorem L_Md_liveBehind {d l : Nat} {T : xT} {w : xWd} {Q : xMV → xWd → Prop} (hS : tS w T) (hl : l < tn T) (h : Q (xI (nI (mLv T l))) w) : ∀ k v : Nat, v + k = l → xWp (d + 2) m_Md_liveBehind 6 [xA 7 2, xI (nI l), xI (nI (2 ^ l) ||| nI (z_mk v (fun v => tb T l v && ub T l v))), xI (nI v)] [] w Q := by
  have h8 := tS_n8 hS
  intro k
  induction k with
  | zero =>
    intro v hv
    have e : v = l := by omega
    subst e
    refine G_Md_liveBehind_6 ⟨fun _ => by rw [mLv_up hS.2.1 hl]; exact h, fun c => absurd ((z_le (by omega) (by omega)).mpr (Nat.le_refl v)) c⟩
  | succ k ih =>
    intro v hv
    have step : ∀ {x : Int32}, (tb T l v && ub T l v) = true → x = nI (2 ^ l) ||| nI (z_mk v (fun v => tb T l v && ub T l v)) → xWp (d + 2) m_Md_liveBehind 6 [xA 7 2, xI (nI l), xI (x ||| nI (2 ^ v)), xI (nI (v + 1))] [] w Q := by
      intro x hp hx
      have := ih (v + 1) (by omega)
      rw [← z_mk_or (p := fun v => tb T l v && ub T l v) hp] at this
      rw [hx, show (nI (2 ^ l) ||| nI (z_mk v (fun v => tb T l v && ub T l v))) ||| nI (2 ^ v) = nI (2 ^ l) ||| (nI (z_mk v (fun v => tb T l v && ub T l v)) ||| nI (2 ^ v)) from by rw [fa_or, fa_or, fa_or, fa_or, Nat.or_assoc]]
      exact this
    have skip : ¬ (tb T l v && ub T l v) = true → xWp (d + 2) m_Md_liveBehind 6 [xA 7 2, xI (nI l), xI ((nI (2 ^ l) ||| nI (z_mk v (fun v => tb T l v && ub T l v))) ||| 0), xI (nI v + 1)] [] w Q := by
      intro hp
      rw [z_or0, nI_1, z_mk_no (p := fun v => tb T l v && ub T l v) hp]
      exact ih (v + 1) (by omega)
    refine G_Md_liveBehind_6 ⟨fun c => absurd ((z_le (by omega) (by omega)).mp c) (by omega), fun c => S_Md_isBelow hS hl (by omega) (fun p1 => ?_) (fun p1 => ?_)⟩
    · refine G_Md_liveBehind_18 ⟨fun c => absurd c n_10, fun _ => S_Md_laterUse hS (by omega) hl ?_⟩
      have hle := tL_le hS.2.1 (l := l) (v := v)
      refine G_Md_liveBehind_27 ⟨fun c2 => skip (fun q => ?_), fun c2 => ?_⟩
      · rw [Bool.and_eq_true] at q
        exact (tL_ub hS.2.1).mpr q.2 ((luI_9 (by omega)).mp c2)
      · rw [z_shl v (by omega), nI_1]
        refine step ?_ rfl
        rw [p1, (tL_ub hS.2.1).mp (fun q => c2 ((luI_9 (by omega)).mpr q))]; rfl
    · refine G_Md_liveBehind_18 ⟨fun _ => skip (fun q => ?_), fun c => absurd rfl c⟩
      rw [Bool.and_eq_true] at q
      exact p1 q.1
theorem S_Md_liveBehind {d l : Nat} {T : xT} {w : xWd} {Q : xMV → xWd → Prop} (hS : tS w T) (hl : l < tn T) (h : Q (xI (nI (mLv T l))) w) : xWp (d + 2) m_Md_liveBehind 0 [xA 7 2, xI (nI l), xU, xU] [] w Q := by
  have h8 := tS_n8 hS
  have := L_Md_liveBehind (d := d) hS hl h l 0 (Nat.zero_add _)
  refine G_Md_liveBehind_0 ?_
  rw [z_shl l (by omega)]
  rw [show nI (z_mk 0 (fun v => tb T l v && ub T l v)) = 0 from rfl, z_or0] at this
  exact this
theorem G_Md_doCross_0 {d : Nat} {x1 : Int32} {x2 : Int32} {w : xWd} {Q : xMV → xWd → Prop} (h : xWp (d + 3) m_Md_doCross 2 [xA 7 2, xI x1, xI x2, xI 0, xU] [] w Q) : xWp (d + 3) m_Md_doCross 0 [xA 7 2, xI x1, xI x2, xU, xU] [] w Q := by
  refine x_goN 2 (pc' := 2) (ls' := [xA 7 2, xI x1, xI x2, xI 0, xU]) (st' := []) (w' := w) rfl ?_
  exact h
theorem G_Md_doCross_2 {d : Nat} {x1 : Int32} {x2 : Int32} {x3 : Int32} {w : xWd} {Q : xMV → xWd → Prop} (h : ((w 2 5 ≤ x3 → Q (xI 0) w) ∧ (¬ (w 2 5 ≤ x3) → xWp (d + 2) m_Md_liveBehind 0 [xA 7 2, xI x3, xU, xU] [] w (fun a w' => xWp (d + 3) m_Md_doCross 15 [xA 7 2, xI x1, xI x2, xI x3, xU] (x_pu a []) w' Q)))) : xWp (d + 3) m_Md_doCross 2 [xA 7 2, xI x1, xI x2, xI x3, xU] [] w Q := by
  refine x_goN 4 (pc' := if w 2 5 ≤ x3 then 43 else 10) (ls' := [xA 7 2, xI x1, xI x2, xI x3, xU]) (st' := []) (w' := w) rfl ?_
  refine x_br (fun c1 => ?_) (fun c1 => ?_)
  · skip
    refine x_goN 1 (pc' := 44) (ls' := [xA 7 2, xI x1, xI x2, xI x3, xU]) (st' := [xI 0]) (w' := w) rfl ?_
    exact x_ret (P := (0 : Int32) = 0 ∨ (0 : Int32) = 1) rfl (by decide) (h.1 c1)
  · skip
    refine x_goN 2 (pc' := 12) (ls' := [xA 7 2, xI x1, xI x2, xI x3, xU]) (st' := [xI x3, xA 7 2]) (w' := w) rfl ?_
    refine x_call (y := m_Md_liveBehind) (as := [xA 7 2, xI x3]) (rst := []) rfl [xA 7 2, xI x3, xU, xU] rfl ?_
    exact (h.2 c1)
theorem G_Md_doCross_15 {d : Nat} {x1 : Int32} {x2 : Int32} {x3 : Int32} {s0 : Int32} {w : xWd} {Q : xMV → xWd → Prop} (h : ((p_in s0 x1 → ((p_in s0 x2 → Q (xI 1) w) ∧ (¬ (p_in s0 x2) → xWp (d + 3) m_Md_doCross 2 [xA 7 2, xI x1, xI x2, xI (x3 + 1), xU] [] w Q))) ∧ (¬ (p_in s0 x1) → xWp (d + 3) m_Md_doCross 2 [xA 7 2, xI x1, xI x2, xI (x3 + 1), xU] [] w Q))) : xWp (d + 3) m_Md_doCross 15 [xA 7 2, xI x1, xI x2, xI x3, xU] [xI s0] w Q := by
  refine x_goN 3 (pc' := 20) (ls' := [xA 7 2, xI x1, xI x2, xI x3, xI s0]) (st' := [xI x1, xI s0]) (w' := w) rfl ?_
  refine x_call (y := m_Md_isOf) (as := [xI s0, xI x1]) (rst := []) rfl [xI s0, xI x1] rfl ?_
  refine S_Md_isOf (fun c1 => ?_) (fun c1 => ?_)
  · skip
    refine x_goN 1 (pc' := if (1 : Int32) = (0 : Int32) then 37 else 26) (ls' := [xA 7 2, xI x1, xI x2, xI x3, xI s0]) (st' := []) (w' := w) rfl ?_
    refine x_brF (by decide) ?_
    refine x_goN 2 (pc' := 29) (ls' := [xA 7 2, xI x1, xI x2, xI x3, xI s0]) (st' := [xI x2, xI s0]) (w' := w) rfl ?_
    refine x_call (y := m_Md_isOf) (as := [xI s0, xI x2]) (rst := []) rfl [xI s0, xI x2] rfl ?_
    refine S_Md_isOf (fun c2 => ?_) (fun c2 => ?_)
    · skip
      refine x_goN 1 (pc' := if (1 : Int32) = (0 : Int32) then 37 else 35) (ls' := [xA 7 2, xI x1, xI x2, xI x3, xI s0]) (st' := []) (w' := w) rfl ?_
      refine x_brF (by decide) ?_
      refine x_goN 1 (pc' := 36) (ls' := [xA 7 2, xI x1, xI x2, xI x3, xI s0]) (st' := [xI 1]) (w' := w) rfl ?_
      exact x_ret (P := (1 : Int32) = 0 ∨ (1 : Int32) = 1) rfl (by decide) ((h.1 c1).1 c2)
    · skip
      refine x_goN 1 (pc' := if (0 : Int32) = (0 : Int32) then 37 else 35) (ls' := [xA 7 2, xI x1, xI x2, xI x3, xI s0]) (st' := []) (w' := w) rfl ?_
      refine x_brT (by decide) ?_
      refine x_goN 2 (pc' := 2) (ls' := [xA 7 2, xI x1, xI x2, xI (x3 + 1), xI s0]) (st' := []) (w' := w) rfl ?_
      exact x_weak (((h.1 c1).2 c2)) ⟨Or.inl rfl, Or.inl rfl, Or.inl rfl, Or.inl rfl, Or.inr ⟨rfl, rfl⟩, trivial⟩
  · skip
    refine x_goN 1 (pc' := if (0 : Int32) = (0 : Int32) then 37 else 26) (ls' := [xA 7 2, xI x1, xI x2, xI x3, xI s0]) (st' := []) (w' := w) rfl ?_
    refine x_brT (by decide) ?_
    refine x_goN 2 (pc' := 2) (ls' := [xA 7 2, xI x1, xI x2, xI (x3 + 1), xI s0]) (st' := []) (w' := w) rfl ?_
    exact x_weak ((h.2 c1)) ⟨Or.inl rfl, Or.inl rfl, Or.inl rfl, Or.inl rfl, Or.inr ⟨rfl, rfl⟩, trivial⟩
theorem L_Md_doCross {d a b : Nat} {T : xT} {w : xWd} {Q : xMV → xWd → Prop} (hS : tS w T) (ha : a < 8) (hb : b < 8) (h1 : cr T a b = true → Q (xI 1) w) (h2 : ¬ cr T a b = true → Q (xI 0) w) : ∀ k l : Nat, l + k = tn T → (∀ j, j < l → ¬ ((mLv T j).testBit a && (mLv T j).testBit b) = true) → xWp (d + 3) m_Md_doCross 2 [xA 7 2, xI (nI a), xI (nI b), xI (nI l), xU] [] w Q := by
  have h8 := tS_n8 hS
  intro k
  induction k with
  | zero =>
    intro l hl hn
    have e : l = tn T := by omega
    subst e
    refine G_Md_doCross_2 ⟨fun _ => h2 (fun q => ?_), fun c => absurd (tS_end hS) c⟩
    obtain ⟨j, hj, hp⟩ := (z_any_iff _ _).mp q
    exact hn j hj hp
  | succ k ih =>
    intro l hl hn
    have hlt : l < tn T := by omega
    have next : ¬ ((mLv T l).testBit a && (mLv T l).testBit b) = true → xWp (d + 3) m_Md_doCross 2 [xA 7 2, xI (nI a), xI (nI b), xI (nI l + 1), xU] [] w Q := by
      intro hp
      rw [nI_1]
      refine ih (l + 1) (by omega) (fun j hj => ?_)
      by_cases e : j = l
      · subst e; exact hp
      · exact hn j (by omega)
    refine G_Md_doCross_2 ⟨fun c => absurd c (tS_ge hS hlt), fun c => S_Md_liveBehind hS hlt ?_⟩
    refine G_Md_doCross_15 ⟨fun c1 => ⟨fun c2 => h1 ?_, fun c2 => next (fun q => ?_)⟩, fun c1 => next (fun q => ?_)⟩
    · exact (z_any_iff _ _).mpr ⟨l, hlt, by rw [(z_bit' (mLv_lt T l) ha).mp c1, (z_bit' (mLv_lt T l) hb).mp c2]; rfl⟩
    · rw [Bool.and_eq_true] at q
      exact c2 ((z_bit' (mLv_lt T l) hb).mpr q.2)
    · rw [Bool.and_eq_true] at q
      exact c1 ((z_bit' (mLv_lt T l) ha).mpr q.1)
theorem S_Md_doCross {d a b : Nat} {T : xT} {w : xWd} {Q : xMV → xWd → Prop} (hS : tS w T) (ha : a < 8) (hb : b < 8) (h1 : cr T a b = true → Q (xI 1) w) (h2 : ¬ cr T a b = true → Q (xI 0) w) : xWp (d + 3) m_Md_doCross 0 [xA 7 2, xI (nI a), xI (nI b), xU, xU] [] w Q :=
  G_Md_doCross_0 (L_Md_doCross hS ha hb h1 h2 (tn T) 0 (Nat.zero_add _) (fun j hj => absurd hj (Nat.not_lt_zero _)))
theorem cr_lt {T : xT} (h : tCh T) {a b : Nat} (hc : cr T a b = true) : a < tn T ∧ b < tn T := by
  obtain ⟨j, hj, hp⟩ := (z_any_iff _ _).mp hc
  rw [Bool.and_eq_true] at hp
  have := mLv_le h hj hp.1
  have := mLv_le h hj hp.2
  omega
theorem cr_sym (T : xT) (a b : Nat) : cr T a b = cr T b a := by
  unfold cr
  exact z_any_congr _ (fun j _ => Bool.and_comm _ _)
theorem mCr_n {T : xT} (h : tCh T) (v : Nat) : z_mk (tn T) (fun u => decide (u ≠ v) && cr T v u) = mCr T v := by
  unfold mCr
  apply z_mk_up h.1 (Nat.le_refl _)
  intro j hj
  rw [decide_eq_true hj, Bool.true_and]
  cases hc : cr T v j with
  | false => rw [Bool.and_false, Bool.and_false]
  | true => rw [decide_eq_true (cr_lt h hc).2, Bool.true_and]
theorem G_Md_crossing_0 {d : Nat} {x1 : Int32} {w : xWd} {Q : xMV → xWd → Prop} (h : xWp (d + 4) m_Md_crossing 4 [xA 7 2, xI x1, xI 0, xI 0] [] w Q) : xWp (d + 4) m_Md_crossing 0 [xA 7 2, xI x1, xU, xU] [] w Q := by
  refine x_goN 4 (pc' := 4) (ls' := [xA 7 2, xI x1, xI 0, xI 0]) (st' := []) (w' := w) rfl ?_
  exact h
theorem G_Md_crossing_4 {d : Nat} {x1 : Int32} {x2 : Int32} {x3 : Int32} {w : xWd} {Q : xMV → xWd → Prop} (h : ((w 2 5 ≤ x3 → Q (xI x2) w) ∧ (¬ (w 2 5 ≤ x3) → ((x3 = x1 → xWp (d + 4) m_Md_crossing 4 [xA 7 2, xI x1, xI (x2 ||| 0), xI (x3 + 1)] [] w Q) ∧ (¬ (x3 = x1) → xWp (d + 3) m_Md_doCross 0 [xA 7 2, xI x1, xI x3, xU, xU] [] w (fun a w' => xWp (d + 4) m_Md_crossing 24 [xA 7 2, xI x1, xI x2, xI x3] (x_pu a [xI x2]) w' Q)))))) : xWp (d + 4) m_Md_crossing 4 [xA 7 2, xI x1, xI x2, xI x3] [] w Q := by
  refine x_goN 4 (pc' := if w 2 5 ≤ x3 then 42 else 12) (ls' := [xA 7 2, xI x1, xI x2, xI x3]) (st' := []) (w' := w) rfl ?_
  refine x_br (fun c1 => ?_) (fun c1 => ?_)
  · skip
    refine x_goN 1 (pc' := 43) (ls' := [xA 7 2, xI x1, xI x2, xI x3]) (st' := [xI x2]) (w' := w) rfl ?_
    exact x_ret (P := True) rfl trivial (h.1 c1)
  · skip
    refine x_goN 4 (pc' := if x3 = x1 then 33 else 18) (ls' := [xA 7 2, xI x1, xI x2, xI x3]) (st' := [xI x2]) (w' := w) rfl ?_
    refine x_br (fun c2 => ?_) (fun c2 => ?_)
    · skip
      refine x_goN 5 (pc' := 4) (ls' := [xA 7 2, xI x1, xI (x2 ||| 0), xI (x3 + 1)]) (st' := []) (w' := w) rfl ?_
      exact ((h.2 c1).1 c2)
    · skip
      refine x_goN 3 (pc' := 21) (ls' := [xA 7 2, xI x1, xI x2, xI x3]) (st' := [xI x3, xI x1, xA 7 2, xI x2]) (w' := w) rfl ?_
      refine x_call (y := m_Md_doCross) (as := [xA 7 2, xI x1, xI x3]) (rst := [xI x2]) rfl [xA 7 2, xI x1, xI x3, xU, xU] rfl ?_
      exact ((h.2 c1).2 c2)
theorem G_Md_crossing_24 {d : Nat} {x1 : Int32} {x2 : Int32} {x3 : Int32} {s1 : Int32} {s0 : Int32} {w : xWd} {Q : xMV → xWd → Prop} (h : ((s1 = 0 → xWp (d + 4) m_Md_crossing 4 [xA 7 2, xI x1, xI (s0 ||| 0), xI (x3 + 1)] [] w Q) ∧ (¬ (s1 = 0) → xWp (d + 4) m_Md_crossing 4 [xA 7 2, xI x1, xI (s0 ||| ((1 : Int32) <<< (x3 &&& 31))), xI (x3 + 1)] [] w Q))) : xWp (d + 4) m_Md_crossing 24 [xA 7 2, xI x1, xI x2, xI x3] [xI s1, xI s0] w Q := by
  refine x_goN 1 (pc' := if s1 = 0 then 33 else 27) (ls' := [xA 7 2, xI x1, xI x2, xI x3]) (st' := [xI s0]) (w' := w) rfl ?_
  refine x_br (fun c1 => ?_) (fun c1 => ?_)
  · skip
    refine x_goN 5 (pc' := 4) (ls' := [xA 7 2, xI x1, xI (s0 ||| 0), xI (x3 + 1)]) (st' := []) (w' := w) rfl ?_
    exact (h.1 c1)
  · skip
    refine x_goN 8 (pc' := 4) (ls' := [xA 7 2, xI x1, xI (s0 ||| ((1 : Int32) <<< (x3 &&& 31))), xI (x3 + 1)]) (st' := []) (w' := w) rfl ?_
    exact (h.2 c1)
theorem L_Md_crossing {d v : Nat} {T : xT} {w : xWd} {Q : xMV → xWd → Prop} (hS : tS w T) (hv : v < 8) (h : Q (xI (nI (mCr T v))) w) : ∀ k m : Nat, m + k = tn T → xWp (d + 4) m_Md_crossing 4 [xA 7 2, xI (nI v), xI (nI (z_mk m (fun u => decide (u ≠ v) && cr T v u))), xI (nI m)] [] w Q := by
  have h8 := tS_n8 hS
  intro k
  induction k with
  | zero =>
    intro m hm
    have e : m = tn T := by omega
    subst e
    exact G_Md_crossing_4 ⟨fun _ => by rw [mCr_n hS.2.1]; exact h, fun c => absurd (tS_end hS) c⟩
  | succ k ih =>
    intro m hm
    have hlt : m < tn T := by omega
    have skip : ¬ (decide (m ≠ v) && cr T v m) = true → xWp (d + 4) m_Md_crossing 4 [xA 7 2, xI (nI v), xI (nI (z_mk m (fun u => decide (u ≠ v) && cr T v u)) ||| 0), xI (nI m + 1)] [] w Q := by
      intro hp
      rw [z_or0, nI_1, z_mk_no (p := fun u => decide (u ≠ v) && cr T v u) hp]
      exact ih (m + 1) (by omega)
    refine G_Md_crossing_4 ⟨fun c => absurd c (tS_ge hS hlt), fun c => ⟨fun c1 => skip (fun q => ?_), fun c1 => S_Md_doCross hS hv (by omega) (fun p => ?_) (fun p => ?_)⟩⟩
    · rw [Bool.and_eq_true] at q
      exact of_decide_eq_true q.1 ((z_eq (by omega) (by omega)).mp c1)
    · have hne : m ≠ v := fun q => c1 ((z_eq (by omega) (by omega)).mpr q)
      refine G_Md_crossing_24 ⟨fun c => absurd c n_10, fun _ => ?_⟩
      rw [z_shl m (by omega), z_mk_or (p := fun u => decide (u ≠ v) && cr T v u) (by rw [p, decide_eq_true hne]; rfl), nI_1]
      exact ih (m + 1) (by omega)
    · refine G_Md_crossing_24 ⟨fun _ => skip (fun q => ?_), fun c => absurd rfl c⟩
      rw [Bool.and_eq_true] at q
      exact p q.2
theorem S_Md_crossing {d v : Nat} {T : xT} {w : xWd} {Q : xMV → xWd → Prop} (hS : tS w T) (hv : v < 8) (h : Q (xI (nI (mCr T v))) w) : xWp (d + 4) m_Md_crossing 0 [xA 7 2, xI (nI v), xU, xU] [] w Q :=
  G_Md_crossing_0 (L_Md_crossing hS hv h (tn T) 0 (Nat.zero_add _))
/-! colours of the model -/
theorem tS_fr {w w' : xWd} {T : xT} (h : tS w T) (e2 : w' 2 5 = w 2 5) (e71 : w' 71 = w 71) (e72 : w' 72 = w 72) (e73 : w' 73 = w 73) (e74 : w' 74 = w 74) : tS w' T := by
  refine ⟨⟨by rw [e2]; exact h.1.1, fun l hl => ?_⟩, h.2⟩
  rw [e71, e72, e73, e74]
  exact h.1.2 l hl
def cH (T : xT) (w w' : xWd) (k : Nat) : Prop := (∀ a, a ≠ 81 → w' a = w a) ∧ ∀ l, l < k → w' 81 l = nI (tCl T l)
theorem cH_S {k : Nat} {T : xT} {w w' : xWd} (hS : tS w T) (h : cH T w w' k) : tS w' T := tS_fr hS (by rw [h.1 2 (by decide)]) (h.1 _ (by decide)) (h.1 _ (by decide)) (h.1 _ (by decide)) (h.1 _ (by decide))
theorem z_lz_bit : ∀ m, m < 256 → ∀ k, k < 8 → (k < z_lz m → m.testBit k = true) ∧ (k = z_lz m → m.testBit k = false) := by decide +kernel
theorem G_Md_findColours_0 {d : Nat} {w : xWd} {Q : xMV → xWd → Prop} (h : xWp (d + 3) m_Md_findColours 2 [xA 7 2, xI 0, xU, xU, xU] [] w Q) : xWp (d + 3) m_Md_findColours 0 [xA 7 2, xU, xU, xU, xU] [] w Q := by
  refine x_goN 2 (pc' := 2) (ls' := [xA 7 2, xI 0, xU, xU, xU]) (st' := []) (w' := w) rfl ?_
  exact h
theorem G_Md_findColours_2 {d : Nat} {x1 : Int32} {w : xWd} {Q : xMV → xWd → Prop} (h : ((w 2 5 ≤ x1 → Q xU w) ∧ (¬ (w 2 5 ≤ x1) → xWp (d + 2) m_Md_liveBehind 0 [xA 7 2, xI x1, xU, xU] [] w (fun a w' => xWp (d + 3) m_Md_findColours 15 [xA 7 2, xI x1, xU, xU, xU] (x_pu a []) w' Q)))) : xWp (d + 3) m_Md_findColours 2 [xA 7 2, xI x1, xU, xU, xU] [] w Q := by
  refine x_goN 4 (pc' := if w 2 5 ≤ x1 then 97 else 10) (ls' := [xA 7 2, xI x1, xU, xU, xU]) (st' := []) (w' := w) rfl ?_
  refine x_br (fun c1 => ?_) (fun c1 => ?_)
  · skip
    exact x_ret (P := True) rfl trivial (h.1 c1)
  · skip
    refine x_goN 2 (pc' := 12) (ls' := [xA 7 2, xI x1, xU, xU, xU]) (st' := [xI x1, xA 7 2]) (w' := w) rfl ?_
    refine x_call (y := m_Md_liveBehind) (as := [xA 7 2, xI x1]) (rst := []) rfl [xA 7 2, xI x1, xU, xU] rfl ?_
    exact (h.2 c1)
theorem G_Md_findColours_15 {d : Nat} {x1 : Int32} {s0 : Int32} {w : xWd} {Q : xMV → xWd → Prop} (h : xWp (d + 3) m_Md_findColours 21 [xA 7 2, xI x1, xI s0, xI 0, xI 0] [] w Q) : xWp (d + 3) m_Md_findColours 15 [xA 7 2, xI x1, xU, xU, xU] [xI s0] w Q := by
  refine x_goN 5 (pc' := 21) (ls' := [xA 7 2, xI x1, xI s0, xI 0, xI 0]) (st' := []) (w' := w) rfl ?_
  exact h
theorem G_Md_findColours_21 {d : Nat} {x1 : Int32} {x2 : Int32} {x3 : Int32} {x4 : Int32} {w : xWd} {Q : xMV → xWd → Prop} (h : ((x1 ≤ x4 → (vp_in x1 8 ∧ ∀ w1 : xWd, w1 = x_set w 81 x1.toNatClampNeg 0 → xWp (d + 3) m_Md_findColours 65 [xA 7 2, xI x1, xI x2, xI x3, xI x4] [] w1 Q)) ∧ (¬ (x1 ≤ x4) → ((p_in x2 x4 → (vp_in x4 8 ∧ xWp (d + 3) m_Md_findColours 21 [xA 7 2, xI x1, xI x2, xI (x3 ||| ((1 : Int32) <<< ((w 81 x4.toNatClampNeg) &&& 31))), xI (x4 + 1)] [] w Q)) ∧ (¬ (p_in x2 x4) → xWp (d + 3) m_Md_findColours 21 [xA 7 2, xI x1, xI x2, xI (x3 ||| 0), xI (x4 + 1)] [] w Q))))) : xWp (d + 3) m_Md_findColours 21 [xA 7 2, xI x1, xI x2, xI x3, xI x4] [] w Q := by
  refine x_goN 3 (pc' := if x1 ≤ x4 then 58 else 27) (ls' := [xA 7 2, xI x1, xI x2, xI x3, xI x4]) (st' := []) (w' := w) rfl ?_
  refine x_br (fun c1 => ?_) (fun c1 => ?_)
  · skip
    refine x_goN 4 (pc' := 64) (ls' := [xA 7 2, xI x1, xI x2, xI x3, xI x4]) (st' := [xI 0, xI x1, xA 108 81]) (w' := w) rfl ?_
    refine x_obW (P := vp_in x1 8) (pc' := 65) (ls' := [xA 7 2, xI x1, xI x2, xI x3, xI x4]) (st' := []) (w' := x_set w 81 x1.toNatClampNeg 0) rfl (h.1 c1).1 (fun w1 ew1 => ?_)
    exact ((h.1 c1).2 w1 ew1)
  · skip
    refine x_goN 3 (pc' := 31) (ls' := [xA 7 2, xI x1, xI x2, xI x3, xI x4]) (st' := [xI x4, xI x2, xI x3]) (w' := w) rfl ?_
    refine x_call (y := m_Md_isOf) (as := [xI x2, xI x4]) (rst := [xI x3]) rfl [xI x2, xI x4] rfl ?_
    refine S_Md_isOf (fun c2 => ?_) (fun c2 => ?_)
    · skip
      refine x_goN 1 (pc' := if (1 : Int32) = (0 : Int32) then 49 else 37) (ls' := [xA 7 2, xI x1, xI x2, xI x3, xI x4]) (st' := [xI x3]) (w' := w) rfl ?_
      refine x_brF (by decide) ?_
      refine x_goN 4 (pc' := 44) (ls' := [xA 7 2, xI x1, xI x2, xI x3, xI x4]) (st' := [xI x4, xA 108 81, xI 1, xI x3]) (w' := w) rfl ?_
      refine x_ob (P := vp_in x4 8) (pc' := 45) (ls' := [xA 7 2, xI x1, xI x2, xI x3, xI x4]) (st' := [xI (w 81 x4.toNatClampNeg), xI 1, xI x3]) (w' := w) rfl ((h.2 c1).1 c2).1 ?_
      refine x_goN 6 (pc' := 21) (ls' := [xA 7 2, xI x1, xI x2, xI (x3 ||| ((1 : Int32) <<< ((w 81 x4.toNatClampNeg) &&& 31))), xI (x4 + 1)]) (st' := []) (w' := w) rfl ?_
      exact ((h.2 c1).1 c2).2
    · skip
      refine x_goN 1 (pc' := if (0 : Int32) = (0 : Int32) then 49 else 37) (ls' := [xA 7 2, xI x1, xI x2, xI x3, xI x4]) (st' := [xI x3]) (w' := w) rfl ?_
      refine x_brT (by decide) ?_
      refine x_goN 5 (pc' := 21) (ls' := [xA 7 2, xI x1, xI x2, xI (x3 ||| 0), xI (x4 + 1)]) (st' := []) (w' := w) rfl ?_
      exact ((h.2 c1).2 c2)
theorem G_Md_findColours_65 {d : Nat} {x1 : Int32} {x2 : Int32} {x3 : Int32} {x4 : Int32} {w : xWd} {Q : xMV → xWd → Prop} (h : (vp_in x1 8 ∧ ((p_in x3 (w 81 x1.toNatClampNeg) → (vp_in x1 8 ∧ (vp_in x1 8 ∧ ∀ w1 : xWd, w1 = x_set w 81 x1.toNatClampNeg ((w 81 x1.toNatClampNeg) + 1) → xWp (d + 3) m_Md_findColours 65 [xA 7 2, xI x1, xI x2, xI x3, xI x4] [] w1 Q))) ∧ (¬ (p_in x3 (w 81 x1.toNatClampNeg)) → xWp (d + 3) m_Md_findColours 2 [xA 7 2, xI (x1 + 1), xU, xU, xU] [] w Q)))) : xWp (d + 3) m_Md_findColours 65 [xA 7 2, xI x1, xI x2, xI x3, xI x4] [] w Q := by
  refine x_goN 4 (pc' := 71) (ls' := [xA 7 2, xI x1, xI x2, xI x3, xI x4]) (st' := [xI x1, xA 108 81, xI x3]) (w' := w) rfl ?_
  refine x_ob (P := vp_in x1 8) (pc' := 72) (ls' := [xA 7 2, xI x1, xI x2, xI x3, xI x4]) (st' := [xI (w 81 x1.toNatClampNeg), xI x3]) (w' := w) rfl h.1 ?_
  refine x_call (y := m_Md_isOf) (as := [xI x3, xI (w 81 x1.toNatClampNeg)]) (rst := []) rfl [xI x3, xI (w 81 x1.toNatClampNeg)] rfl ?_
  refine S_Md_isOf (fun c1 => ?_) (fun c1 => ?_)
  · skip
    refine x_goN 1 (pc' := if (1 : Int32) = (0 : Int32) then 91 else 78) (ls' := [xA 7 2, xI x1, xI x2, xI x3, xI x4]) (st' := []) (w' := w) rfl ?_
    refine x_brF (by decide) ?_
    refine x_goN 4 (pc' := 84) (ls' := [xA 7 2, xI x1, xI x2, xI x3, xI x4]) (st' := [xI x1, xA 108 81, xI x1, xA 108 81]) (w' := w) rfl ?_
    refine x_ob (P := vp_in x1 8) (pc' := 85) (ls' := [xA 7 2, xI x1, xI x2, xI x3, xI x4]) (st' := [xI (w 81 x1.toNatClampNeg), xI x1, xA 108 81]) (w' := w) rfl (h.2.1 c1).1 ?_
    refine x_goN 2 (pc' := 87) (ls' := [xA 7 2, xI x1, xI x2, xI x3, xI x4]) (st' := [xI ((w 81 x1.toNatClampNeg) + 1), xI x1, xA 108 81]) (w' := w) rfl ?_
    refine x_obW (P := vp_in x1 8) (pc' := 88) (ls' := [xA 7 2, xI x1, xI x2, xI x3, xI x4]) (st' := []) (w' := x_set w 81 x1.toNatClampNeg ((w 81 x1.toNatClampNeg) + 1)) rfl (h.2.1 c1).2.1 (fun w1 ew1 => ?_)
    refine x_goN 1 (pc' := 65) (ls' := [xA 7 2, xI x1, xI x2, xI x3, xI x4]) (st' := []) (w' := w1) rfl ?_
    exact ((h.2.1 c1).2.2 w1 ew1)
  · skip
    refine x_goN 1 (pc' := if (0 : Int32) = (0 : Int32) then 91 else 78) (ls' := [xA 7 2, xI x1, xI x2, xI x3, xI x4]) (st' := []) (w' := w) rfl ?_
    refine x_brT (by decide) ?_
    refine x_goN 2 (pc' := 2) (ls' := [xA 7 2, xI (x1 + 1), xI x2, xI x3, xI x4]) (st' := []) (w' := w) rfl ?_
    exact x_weak ((h.2.2 c1)) ⟨Or.inl rfl, Or.inl rfl, Or.inr ⟨rfl, rfl⟩, Or.inr ⟨rfl, rfl⟩, Or.inr ⟨rfl, rfl⟩, trivial⟩
theorem L_Md_findColours_up {d l : Nat} {T : xT} {w0 : xWd} {Q : xMV → xWd → Prop} {x2 x4 : Int32} {m : Nat} (hm : m < 256) (hl : l < 8) (hz : z_lz m < 8) (h : ∀ w : xWd, (∀ a, a ≠ 81 → w a = w0 a) → (∀ j, j ≠ l → w 81 j = w0 81 j) → w 81 l = nI (z_lz m) → xWp (d + 3) m_Md_findColours 2 [xA 7 2, xI (nI (l + 1)), xU, xU, xU] [] w Q) : ∀ (k c : Nat) (w : xWd), c + k = z_lz m → (∀ a, a ≠ 81 → w a = w0 a) → (∀ j, j ≠ l → w 81 j = w0 81 j) → w 81 l = nI c → xWp (d + 3) m_Md_findColours 65 [xA 7 2, xI (nI l), xI x2, xI (nI m), xI x4] [] w Q := by
  intro k
  induction k with
  | zero =>
    intro c w hc ha hj hw
    have e : c = z_lz m := by omega
    subst e
    refine G_Md_findColours_65 ⟨z_in (by omega) (by decide), ?_⟩
    rw [z_cl' (by omega), hw]
    refine ⟨fun c1 => ?_, fun _ => by rw [nI_1]; exact h w ha hj hw⟩
    have q := (z_bit' hm hz).mp c1
    rw [(z_lz_bit m hm _ hz).2 rfl] at q
    cases q
  | succ k ih =>
    intro c w hc ha hj hw
    refine G_Md_findColours_65 ⟨z_in (by omega) (by decide), ?_⟩
    rw [z_cl' (by omega), hw]
    refine ⟨fun _ => ⟨z_in (by omega) (by decide), z_in (by omega) (by decide), fun w1 ew1 => ?_⟩, fun c1 => absurd ((z_bit' hm (by omega)).mpr ((z_lz_bit m hm c (by omega)).1 (by omega))) c1⟩
    subst ew1
    refine ih (c + 1) _ (by omega) (fun a ha' => by rw [x_set_o ha']; exact ha a ha') (fun j hj' => by rw [x_set_s, upd_o hj']; exact hj j hj') ?_
    rw [x_set_s, upd_s, nI_1]
theorem L_Md_findColours_in {d l : Nat} {T : xT} {w : xWd} {Q : xMV → xWd → Prop} (hl8 : l < 8) (hc : ∀ v, v < l → w 81 v = nI (tCl T v))
    (h : xWp (d + 3) m_Md_findColours 21 [xA 7 2, xI (nI l), xI (nI (mLv T l)), xI (nI (tTk T l (tCl T) l)), xI (nI l)] [] w Q) : ∀ k v : Nat, v + k = l → xWp (d + 3) m_Md_findColours 21 [xA 7 2, xI (nI l), xI (nI (mLv T l)), xI (nI (tTk T l (tCl T) v)), xI (nI v)] [] w Q := by
  intro k
  induction k with
  | zero =>
    intro v hv
    have e : v = l := by omega
    subst e
    exact h
  | succ k ih =>
    intro v hv
    refine G_Md_findColours_21 ⟨fun c => absurd ((z_le (by omega) (by omega)).mp c) (by omega), fun c => ⟨fun c1 => ⟨z_in (by omega) (by decide), ?_⟩, fun c1 => ?_⟩⟩
    · have hp := (z_bit' (mLv_lt T l) (by omega)).mp c1
      have hlt := tCl_lt (T := T) (show v < 8 by omega)
      rw [z_cl' (by omega), hc v (by omega), z_shl _ (by omega), tTk_s (by omega) hp, nI_1]
      exact ih (v + 1) (by omega)
    · have hp := fun q => c1 ((z_bit' (mLv_lt T l) (by omega)).mpr q)
      rw [z_or0, tTk_n hp, nI_1]
      exact ih (v + 1) (by omega)
theorem L_Md_findColours {d : Nat} {T : xT} {w0 : xWd} {Q : xMV → xWd → Prop} (hS : tS w0 T) (h : ∀ w, cH T w0 w (tn T) → Q xU w) : ∀ (k l : Nat) (w : xWd), l + k = tn T → cH T w0 w l → xWp (d + 3) m_Md_findColours 2 [xA 7 2, xI (nI l), xU, xU, xU] [] w Q := by
  have h8 := tS_n8 hS
  intro k
  induction k with
  | zero =>
    intro l w hl hg
    have e : l = tn T := by omega
    subst e
    exact G_Md_findColours_2 ⟨fun _ => h w hg, fun c => absurd (tS_end (cH_S hS hg)) c⟩
  | succ k ih =>
    intro l w hl hg
    have hlt : l < tn T := by omega
    have hS' := cH_S hS hg
    refine G_Md_findColours_2 ⟨fun c => absurd c (tS_ge hS' hlt), fun c => S_Md_liveBehind hS' hlt ?_⟩
    refine G_Md_findColours_15 ?_
    have e0 : tTk T l (tCl T) 0 = 0 := by unfold tTk; exact z_mk_0 8
    have key := L_Md_findColours_in (d := d) (T := T) (w := w) (Q := Q) (show l < 8 by omega) hg.2 ?_ l 0 (Nat.zero_add _)
    · rw [e0] at key; exact key
    · refine G_Md_findColours_21 ⟨fun _ => ⟨z_in (by omega) (by decide), fun w1 ew1 => ?_⟩, fun c => absurd ((z_le (by omega) (by omega)).mpr (Nat.le_refl l)) c⟩
      have hz : z_lz (tTk T l (tCl T) l) < 8 := by rw [← tCl_eq]; exact tCl_lt (by omega)
      rw [z_cl' (by omega)] at ew1
      subst ew1
      refine L_Md_findColours_up (T := T) (w0 := w) (tTk_lt T l l (tCl T)) (by omega) hz (fun w2 ha hj hw => ?_) (z_lz (tTk T l (tCl T) l)) 0 _ (Nat.zero_add _) (fun a ha => x_set_o ha) (fun j hj => by rw [x_set_s, upd_o hj]) (by rw [x_set_s, upd_s]; rfl)
      refine ih (l + 1) w2 (by omega) ⟨fun a ha' => by rw [ha a ha']; exact hg.1 a ha', fun j hj' => ?_⟩
      by_cases e : j = l
      · subst e; rw [hw, ← tCl_eq]
      · rw [hj j e]; exact hg.2 j (by omega)
theorem S_Md_findColours {d : Nat} {T : xT} {w : xWd} {Q : xMV → xWd → Prop} (hS : tS w T) (h : ∀ w', cH T w w' (tn T) → Q xU w') : xWp (d + 3) m_Md_findColours 0 [xA 7 2, xU, xU, xU, xU] [] w Q :=
  G_Md_findColours_0 (L_Md_findColours hS h (tn T) 0 w (Nat.zero_add _) ⟨fun _ _ => rfl, fun _ q => absurd q (Nat.not_lt_zero _)⟩)
theorem G_Md_colourOf_0 {d : Nat} {x1 : Int32} {w : xWd} {Q : xMV → xWd → Prop} (h : xWp (d + 3) m_Md_findColours 0 [xA 7 2, xU, xU, xU, xU] [] w (fun a w' => xWp (d + 4) m_Md_colourOf 4 [xA 7 2, xI x1] (x_pu a []) w' Q)) : xWp (d + 4) m_Md_colourOf 0 [xA 7 2, xI x1] [] w Q := by
  refine x_goN 1 (pc' := 1) (ls' := [xA 7 2, xI x1]) (st' := [xA 7 2]) (w' := w) rfl ?_
  refine x_call (y := m_Md_findColours) (as := [xA 7 2]) (rst := []) rfl [xA 7 2, xU, xU, xU, xU] rfl ?_
  exact h
theorem G_Md_colourOf_4 {d : Nat} {x1 : Int32} {w : xWd} {Q : xMV → xWd → Prop} (h : (vp_in x1 8 ∧ Q (xI (w 81 x1.toNatClampNeg)) w)) : xWp (d + 4) m_Md_colourOf 4 [xA 7 2, xI x1] [] w Q := by
  refine x_goN 3 (pc' := 9) (ls' := [xA 7 2, xI x1]) (st' := [xI x1, xA 108 81]) (w' := w) rfl ?_
  refine x_ob (P := vp_in x1 8) (pc' := 10) (ls' := [xA 7 2, xI x1]) (st' := [xI (w 81 x1.toNatClampNeg)]) (w' := w) rfl h.1 ?_
  exact x_ret (P := True) rfl trivial h.2
theorem S_Md_colourOf {d l : Nat} {T : xT} {w : xWd} {Q : xMV → xWd → Prop} (hS : tS w T) (hl : l < tn T) (h : ∀ w', cH T w w' (tn T) → Q (xI (nI (tCl T l))) w') : xWp (d + 4) m_Md_colourOf 0 [xA 7 2, xI (nI l)] [] w Q := by
  have h8 := tS_n8 hS
  refine G_Md_colourOf_0 (S_Md_findColours hS (fun w' hg => ?_))
  refine G_Md_colourOf_4 ⟨z_in (by omega) (by decide), ?_⟩
  rw [z_cl' (by omega), hg.2 l hl]
  exact h w' hg
theorem G_Md_manyColours_0 {d : Nat} {w : xWd} {Q : xMV → xWd → Prop} (h : xWp (d + 3) m_Md_findColours 0 [xA 7 2, xU, xU, xU, xU] [] w (fun a w' => xWp (d + 4) m_Md_manyColours 4 [xA 7 2, xU, xU] (x_pu a []) w' Q)) : xWp (d + 4) m_Md_manyColours 0 [xA 7 2, xU, xU] [] w Q := by
  refine x_goN 1 (pc' := 1) (ls' := [xA 7 2, xU, xU]) (st' := [xA 7 2]) (w' := w) rfl ?_
  refine x_call (y := m_Md_findColours) (as := [xA 7 2]) (rst := []) rfl [xA 7 2, xU, xU, xU, xU] rfl ?_
  exact h
theorem G_Md_manyColours_4 {d : Nat} {w : xWd} {Q : xMV → xWd → Prop} (h : xWp (d + 4) m_Md_manyColours 8 [xA 7 2, xI 0, xI 0] [] w Q) : xWp (d + 4) m_Md_manyColours 4 [xA 7 2, xU, xU] [] w Q := by
  refine x_goN 4 (pc' := 8) (ls' := [xA 7 2, xI 0, xI 0]) (st' := []) (w' := w) rfl ?_
  exact h
theorem G_Md_manyColours_8 {d : Nat} {x1 : Int32} {x2 : Int32} {w : xWd} {Q : xMV → xWd → Prop} (h : ((w 2 5 ≤ x2 → Q (xI x1) w) ∧ (¬ (w 2 5 ≤ x2) → (vp_in x2 8 ∧ (((w 81 x2.toNatClampNeg) + 1 ≤ x1 → xWp (d + 4) m_Md_manyColours 8 [xA 7 2, xI x1, xI (x2 + 1)] [] w Q) ∧ (¬ ((w 81 x2.toNatClampNeg) + 1 ≤ x1) → (vp_in x2 8 ∧ xWp (d + 4) m_Md_manyColours 8 [xA 7 2, xI ((w 81 x2.toNatClampNeg) + 1), xI (x2 + 1)] [] w Q))))))) : xWp (d + 4) m_Md_manyColours 8 [xA 7 2, xI x1, xI x2] [] w Q := by
  refine x_goN 4 (pc' := if w 2 5 ≤ x2 then 47 else 16) (ls' := [xA 7 2, xI x1, xI x2]) (st' := []) (w' := w) rfl ?_
  refine x_br (fun c1 => ?_) (fun c1 => ?_)
  · skip
    refine x_goN 1 (pc' := 48) (ls' := [xA 7 2, xI x1, xI x2]) (st' := [xI x1]) (w' := w) rfl ?_
    exact x_ret (P := True) rfl trivial (h.1 c1)
  · skip
    refine x_goN 3 (pc' := 21) (ls' := [xA 7 2, xI x1, xI x2]) (st' := [xI x2, xA 108 81]) (w' := w) rfl ?_
    refine x_ob (P := vp_in x2 8) (pc' := 22) (ls' := [xA 7 2, xI x1, xI x2]) (st' := [xI (w 81 x2.toNatClampNeg)]) (w' := w) rfl (h.2 c1).1 ?_
    refine x_goN 4 (pc' := if (w 81 x2.toNatClampNeg) + 1 ≤ x1 then 39 else 28) (ls' := [xA 7 2, xI x1, xI x2]) (st' := []) (w' := w) rfl ?_
    refine x_br (fun c2 => ?_) (fun c2 => ?_)
    · skip
      refine x_goN 4 (pc' := 8) (ls' := [xA 7 2, xI x1, xI (x2 + 1)]) (st' := []) (w' := w) rfl ?_
      exact ((h.2 c1).2.1 c2)
    · skip
      refine x_goN 3 (pc' := 33) (ls' := [xA 7 2, xI x1, xI x2]) (st' := [xI x2, xA 108 81]) (w' := w) rfl ?_
      refine x_ob (P := vp_in x2 8) (pc' := 34) (ls' := [xA 7 2, xI x1, xI x2]) (st' := [xI (w 81 x2.toNatClampNeg)]) (w' := w) rfl ((h.2 c1).2.2 c2).1 ?_
      refine x_goN 6 (pc' := 8) (ls' := [xA 7 2, xI ((w 81 x2.toNatClampNeg) + 1), xI (x2 + 1)]) (st' := []) (w' := w) rfl ?_
      exact ((h.2 c1).2.2 c2).2
theorem L_Md_manyColours {d : Nat} {T : xT} {w : xWd} {Q : xMV → xWd → Prop} (hS : tS w T) (hc : ∀ l, l < tn T → w 81 l = nI (tCl T l)) (h : Q (xI (nI (nCo T))) w) : ∀ k l : Nat, l + k = tn T → xWp (d + 4) m_Md_manyColours 8 [xA 7 2, xI (nI (z_mx l (fun l => tCl T l + 1))), xI (nI l)] [] w Q := by
  have h8 := tS_n8 hS
  intro k
  induction k with
  | zero =>
    intro l hl
    have e : l = tn T := by omega
    subst e
    exact G_Md_manyColours_8 ⟨fun _ => h, fun c => absurd (tS_end hS) c⟩
  | succ k ih =>
    intro l hl
    have hlt : l < tn T := by omega
    have b1 := z_mx_le l 8 (fun l => tCl T l + 1) (fun j hj => by have := tCl_lt (T := T) (show j < 8 by omega); omega)
    have b2 := tCl_lt (T := T) (show l < 8 by omega)
    have := ih (l + 1) (by omega)
    rw [z_mx_s] at this
    refine G_Md_manyColours_8 ⟨fun c => absurd c (tS_ge hS hlt), fun c => ⟨z_in (by omega) (by decide), ?_⟩⟩
    rw [z_cl' (by omega), hc l hlt, nI_1, nI_1]
    refine ⟨fun c1 => ?_, fun c1 => ⟨z_in (by omega) (by decide), ?_⟩⟩
    · rw [z_le (by omega) (by omega)] at c1
      rw [Nat.max_eq_left c1] at this
      exact this
    · rw [z_le (by omega) (by omega)] at c1
      rw [Nat.max_eq_right (by omega)] at this
      exact this
theorem S_Md_manyColours {d : Nat} {T : xT} {w : xWd} {Q : xMV → xWd → Prop} (hS : tS w T) (h : ∀ w', cH T w w' (tn T) → Q (xI (nI (nCo T))) w') : xWp (d + 4) m_Md_manyColours 0 [xA 7 2, xU, xU] [] w Q := by
  refine G_Md_manyColours_0 (S_Md_findColours hS (fun w' hg => ?_))
  exact G_Md_manyColours_4 (L_Md_manyColours (cH_S hS hg) hg.2 (h w' hg) (tn T) 0 (Nat.zero_add _))
theorem G_Md_greatestPressure_0 {d : Nat} {w : xWd} {Q : xMV → xWd → Prop} (h : xWp (d + 3) m_Md_greatestPressure 4 [xA 7 2, xI 0, xI 0] [] w Q) : xWp (d + 3) m_Md_greatestPressure 0 [xA 7 2, xU, xU] [] w Q := by
  refine x_goN 4 (pc' := 4) (ls' := [xA 7 2, xI 0, xI 0]) (st' := []) (w' := w) rfl ?_
  exact h
theorem G_Md_greatestPressure_4 {d : Nat} {x1 : Int32} {x2 : Int32} {w : xWd} {Q : xMV → xWd → Prop} (h : ((w 2 5 ≤ x2 → Q (xI x1) w) ∧ (¬ (w 2 5 ≤ x2) → xWp (d + 2) m_Md_liveBehind 0 [xA 7 2, xI x2, xU, xU] [] w (fun a w' => xWp (d + 3) m_Md_greatestPressure 17 [xA 7 2, xI x1, xI x2] (x_pu a []) w' Q)))) : xWp (d + 3) m_Md_greatestPressure 4 [xA 7 2, xI x1, xI x2] [] w Q := by
  refine x_goN 4 (pc' := if w 2 5 ≤ x2 then 43 else 12) (ls' := [xA 7 2, xI x1, xI x2]) (st' := []) (w' := w) rfl ?_
  refine x_br (fun c1 => ?_) (fun c1 => ?_)
  · skip
    refine x_goN 1 (pc' := 44) (ls' := [xA 7 2, xI x1, xI x2]) (st' := [xI x1]) (w' := w) rfl ?_
    exact x_ret (P := True) rfl trivial (h.1 c1)
  · skip
    refine x_goN 2 (pc' := 14) (ls' := [xA 7 2, xI x1, xI x2]) (st' := [xI x2, xA 7 2]) (w' := w) rfl ?_
    refine x_call (y := m_Md_liveBehind) (as := [xA 7 2, xI x2]) (rst := []) rfl [xA 7 2, xI x2, xU, xU] rfl ?_
    exact (h.2 c1)
theorem G_Md_greatestPressure_17 {d : Nat} {x1 : Int32} {x2 : Int32} {s0 : Int32} {w : xWd} {Q : xMV → xWd → Prop} (h : xWp (d + 2) m_Md_size 0 [xI s0, xU, xU] [] w (fun a w' => xWp (d + 3) m_Md_greatestPressure 20 [xA 7 2, xI x1, xI x2] (x_pu a []) w' Q)) : xWp (d + 3) m_Md_greatestPressure 17 [xA 7 2, xI x1, xI x2] [xI s0] w Q := by
  refine x_call (y := m_Md_size) (as := [xI s0]) (rst := []) rfl [xI s0, xU, xU] rfl ?_
  exact h
theorem G_Md_greatestPressure_20 {d : Nat} {x1 : Int32} {x2 : Int32} {s0 : Int32} {w : xWd} {Q : xMV → xWd → Prop} (h : ((s0 ≤ x1 → xWp (d + 3) m_Md_greatestPressure 4 [xA 7 2, xI x1, xI (x2 + 1)] [] w Q) ∧ (¬ (s0 ≤ x1) → xWp (d + 2) m_Md_liveBehind 0 [xA 7 2, xI x2, xU, xU] [] w (fun a w' => xWp (d + 3) m_Md_greatestPressure 29 [xA 7 2, xI x1, xI x2] (x_pu a []) w' Q)))) : xWp (d + 3) m_Md_greatestPressure 20 [xA 7 2, xI x1, xI x2] [xI s0] w Q := by
  refine x_goN 2 (pc' := if s0 ≤ x1 then 35 else 24) (ls' := [xA 7 2, xI x1, xI x2]) (st' := []) (w' := w) rfl ?_
  refine x_br (fun c1 => ?_) (fun c1 => ?_)
  · skip
    refine x_goN 4 (pc' := 4) (ls' := [xA 7 2, xI x1, xI (x2 + 1)]) (st' := []) (w' := w) rfl ?_
    exact (h.1 c1)
  · skip
    refine x_goN 2 (pc' := 26) (ls' := [xA 7 2, xI x1, xI x2]) (st' := [xI x2, xA 7 2]) (w' := w) rfl ?_
    refine x_call (y := m_Md_liveBehind) (as := [xA 7 2, xI x2]) (rst := []) rfl [xA 7 2, xI x2, xU, xU] rfl ?_
    exact (h.2 c1)
theorem G_Md_greatestPressure_29 {d : Nat} {x1 : Int32} {x2 : Int32} {s0 : Int32} {w : xWd} {Q : xMV → xWd → Prop} (h : xWp (d + 2) m_Md_size 0 [xI s0, xU, xU] [] w (fun a w' => xWp (d + 3) m_Md_greatestPressure 32 [xA 7 2, xI x1, xI x2] (x_pu a []) w' Q)) : xWp (d + 3) m_Md_greatestPressure 29 [xA 7 2, xI x1, xI x2] [xI s0] w Q := by
  refine x_call (y := m_Md_size) (as := [xI s0]) (rst := []) rfl [xI s0, xU, xU] rfl ?_
  exact h
theorem G_Md_greatestPressure_32 {d : Nat} {x1 : Int32} {x2 : Int32} {s0 : Int32} {w : xWd} {Q : xMV → xWd → Prop} (h : xWp (d + 3) m_Md_greatestPressure 4 [xA 7 2, xI s0, xI (x2 + 1)] [] w Q) : xWp (d + 3) m_Md_greatestPressure 32 [xA 7 2, xI x1, xI x2] [xI s0] w Q := by
  refine x_goN 4 (pc' := 4) (ls' := [xA 7 2, xI s0, xI (x2 + 1)]) (st' := []) (w' := w) rfl ?_
  exact h
theorem L_Md_greatestPressure {d : Nat} {T : xT} {w : xWd} {Q : xMV → xWd → Prop} (hS : tS w T) (h : Q (xI (nI (fMx T))) w) : ∀ k l : Nat, l + k = tn T → xWp (d + 3) m_Md_greatestPressure 4 [xA 7 2, xI (nI (z_mx l (fun l => z_pc (mLv T l)))), xI (nI l)] [] w Q := by
  have h8 := tS_n8 hS
  intro k
  induction k with
  | zero =>
    intro l hl
    have e : l = tn T := by omega
    subst e
    exact G_Md_greatestPressure_4 ⟨fun _ => h, fun c => absurd (tS_end hS) c⟩
  | succ k ih =>
    intro l hl
    have hlt : l < tn T := by omega
    have b1 := z_mx_le l 8 (fun l => z_pc (mLv T l)) (fun j _ => z_pc_le _)
    have b2 := z_pc_le (mLv T l)
    have := ih (l + 1) (by omega)
    rw [z_mx_s] at this
    refine G_Md_greatestPressure_4 ⟨fun c => absurd c (tS_ge hS hlt), fun c => S_Md_liveBehind hS hlt ?_⟩
    refine G_Md_greatestPressure_17 (S_Md_size (mLv_lt T l) ?_)
    refine G_Md_greatestPressure_20 ⟨fun c1 => ?_, fun c1 => S_Md_liveBehind hS hlt ?_⟩
    · rw [z_le (by omega) (by omega)] at c1
      rw [Nat.max_eq_left c1] at this
      rw [nI_1]; exact this
    · refine G_Md_greatestPressure_29 (S_Md_size (mLv_lt T l) ?_)
      refine G_Md_greatestPressure_32 ?_
      rw [z_le (by omega) (by omega)] at c1
      rw [Nat.max_eq_right (by omega)] at this
      rw [nI_1]; exact this
theorem S_Md_greatestPressure {d : Nat} {T : xT} {w : xWd} {Q : xMV → xWd → Prop} (hS : tS w T) (h : Q (xI (nI (fMx T))) w) : xWp (d + 3) m_Md_greatestPressure 0 [xA 7 2, xU, xU] [] w Q :=
  G_Md_greatestPressure_0 (L_Md_greatestPressure hS h (tn T) 0 (Nat.zero_add _))

