/-! LINES: the model's reading -/
def mT (w : xWd) (T : xT) : Prop := ∀ l, l < tn T → w 77 l = nI (tk T l) ∧ w 78 l = nI (ta T l) ∧ w 79 l = nI (tm T l) ∧ ∀ j, j < tm T l → w 80 (2 * l + j) = nI (tu T (2 * l + j))
theorem mT_fr {w w' : xWd} {T : xT} (h : mT w T) (e7 : w' 77 = w 77) (e8 : w' 78 = w 78) (e9 : w' 79 = w 79) (e0 : w' 80 = w 80) : mT w' T := fun l hl => by rw [e7, e8, e9, e0]; exact h l hl
/-- what reading a line changes -/
def fRl (w w' : xWd) : Prop := (∀ a, a ≠ 2 → (a < 77 ∨ 80 < a) → w' a = w a) ∧ ∀ j, j ≠ 10 → w' 2 j = w 2 j
theorem fRl_rf (w : xWd) : fRl w w := ⟨fun _ _ _ => rfl, fun _ _ => rfl⟩
theorem fRl_tr {w w1 w2 : xWd} (h : fRl w w1) (h2 : fRl w1 w2) : fRl w w2 := ⟨fun a a1 a2 => (h2.1 a a1 a2).trans (h.1 a a1 a2), fun j hj => (h2.2 j hj).trans (h.2 j hj)⟩
theorem fRl_2 {w w1 : xWd} {v : Int32} (e : w1 = x_set w 2 10 v) : fRl w w1 := ⟨fun a a1 _ => by rw [e, x_set_o a1], fun j hj => by rw [e, x_set_s, upd_o hj]⟩
theorem fRl_s {w w1 : xWd} {a j : Nat} {v : Int32} (ha : 77 ≤ a ∧ a ≤ 80) (e : w1 = x_set w a j v) : fRl w w1 := ⟨fun b b1 b2 => by rw [e, x_set_o (by omega)], fun j _ => by rw [e, x_set_o (by omega)]⟩
theorem G_Md_isSign_0 {d : Nat} {x1 : Int32} {x2 : Int32} {w : xWd} {Q : xMV → xWd → Prop} (h : ((x1 ≤ w 2 10 → Q (xI 0) w) ∧ (¬ (x1 ≤ w 2 10) → (vp_in (w 2 10) 240 ∧ ((w 69 (w 2 10).toNatClampNeg = x2 → (∀ w1 : xWd, w1 = x_set w 2 10 ((w 2 10) + 1) → Q (xI 1) w1)) ∧ (¬ (w 69 (w 2 10).toNatClampNeg = x2) → Q (xI 0) w)))))) : xWp d m_Md_isSign 0 [xA 7 2, xI x1, xI x2] [] w Q := by
  refine x_goN 4 (pc' := if x1 ≤ w 2 10 then 21 else 8) (ls' := [xA 7 2, xI x1, xI x2]) (st' := []) (w' := w) rfl ?_
  refine x_br (fun c1 => ?_) (fun c1 => ?_)
  · skip
    refine x_goN 1 (pc' := 22) (ls' := [xA 7 2, xI x1, xI x2]) (st' := [xI 0]) (w' := w) rfl ?_
    exact x_ret (P := (0 : Int32) = 0 ∨ (0 : Int32) = 1) rfl (by decide) (h.1 c1)
  · skip
    refine x_goN 4 (pc' := 16) (ls' := [xA 7 2, xI x1, xI x2]) (st' := [xI (w 2 10), xA 340 69]) (w' := w) rfl ?_
    refine x_ob (P := vp_in (w 2 10) 240) (pc' := 17) (ls' := [xA 7 2, xI x1, xI x2]) (st' := [xI (w 69 (w 2 10).toNatClampNeg)]) (w' := w) rfl (h.2 c1).1 ?_
    refine x_goN 2 (pc' := if w 69 (w 2 10).toNatClampNeg = x2 then 23 else 21) (ls' := [xA 7 2, xI x1, xI x2]) (st' := []) (w' := w) rfl ?_
    refine x_br (fun c2 => ?_) (fun c2 => ?_)
    · skip
      refine x_goN 5 (pc' := 30) (ls' := [xA 7 2, xI x1, xI x2]) (st' := [xI ((w 2 10) + 1), xA 7 2]) (w' := w) rfl ?_
      refine x_goW (pc' := 33) (ls' := [xA 7 2, xI x1, xI x2]) (st' := []) (w' := x_set w 2 10 ((w 2 10) + 1)) rfl (fun w1 ew1 => ?_)
      refine x_goN 1 (pc' := 34) (ls' := [xA 7 2, xI x1, xI x2]) (st' := [xI 1]) (w' := w1) rfl ?_
      exact x_ret (P := (1 : Int32) = 0 ∨ (1 : Int32) = 1) rfl (by decide) (((h.2 c1).2.1 c2) w1 ew1)
    · skip
      refine x_goN 1 (pc' := 22) (ls' := [xA 7 2, xI x1, xI x2]) (st' := [xI 0]) (w' := w) rfl ?_
      exact x_ret (P := (0 : Int32) = 0 ∨ (0 : Int32) = 1) rfl (by decide) ((h.2 c1).2.2 c2)
theorem S_Md_isSign {d b n p : Nat} {F : Nat → Int32} {x : Int32} {w : xWd} {Q : xMV → xWd → Prop} (hb : b + n ≤ 240) (hp : p ≤ n) (hF : ∀ j, j < n → w 69 (b + j) = F j) (hat : w 2 10 = nI (b + p)) (h1 : p < n → F p = x → ∀ w', w' = x_set w 2 10 (nI (b + p + 1)) → Q (xI 1) w') (h2 : (p = n ∨ F p ≠ x) → Q (xI 0) w) : xWp d m_Md_isSign 0 [xA 7 2, xI (nI (b + n)), xI x] [] w Q := by
  refine G_Md_isSign_0 ?_
  rw [hat, z_le (by omega) (by omega)]
  refine ⟨fun c => h2 (Or.inl (by omega)), fun c => ?_⟩
  have hlt : p < n := by omega
  rw [z_cl' (by omega), hF p hlt, nI_1]
  exact ⟨z_in (by omega) (by decide), fun c2 w1 e1 => h1 hlt c2 w1 e1, fun c2 => h2 (Or.inr c2)⟩
theorem G_Md_canBeUsed_0 {d : Nat} {x1 : Int32} {x2 : Int32} {w : xWd} {Q : xMV → xWd → Prop} (h : (vp_in x1 8 ∧ xWp d m_Md_canBeUsed 7 [xA 7 2, xI x1, xI x2, xI (w 78 x1.toNatClampNeg)] [] w Q)) : xWp d m_Md_canBeUsed 0 [xA 7 2, xI x1, xI x2, xU] [] w Q := by
  refine x_goN 3 (pc' := 5) (ls' := [xA 7 2, xI x1, xI x2, xU]) (st' := [xI x1, xA 108 78]) (w' := w) rfl ?_
  refine x_ob (P := vp_in x1 8) (pc' := 6) (ls' := [xA 7 2, xI x1, xI x2, xU]) (st' := [xI (w 78 x1.toNatClampNeg)]) (w' := w) rfl h.1 ?_
  refine x_goN 1 (pc' := 7) (ls' := [xA 7 2, xI x1, xI x2, xI (w 78 x1.toNatClampNeg)]) (st' := []) (w' := w) rfl ?_
  exact h.2
theorem G_Md_canBeUsed_7 {d : Nat} {x1 : Int32} {x2 : Int32} {x3 : Int32} {w : xWd} {Q : xMV → xWd → Prop} (h : ((x3 = 8 → xWp d m_Md_canBeUsed 28 [xA 7 2, xI x1, xI x2, xI x3] [] w Q) ∧ (¬ (x3 = 8) → ((x3 = x2 → xWp d m_Md_canBeUsed 28 [xA 7 2, xI x1, xI x2, xI x3] [] w Q) ∧ (¬ (x3 = x2) → (vp_in x3 8 ∧ xWp d m_Md_canBeUsed 7 [xA 7 2, xI x1, xI x2, xI (w 78 x3.toNatClampNeg)] [] w Q)))))) : xWp d m_Md_canBeUsed 7 [xA 7 2, xI x1, xI x2, xI x3] [] w Q := by
  refine x_goN 3 (pc' := if x3 = 8 then 28 else 13) (ls' := [xA 7 2, xI x1, xI x2, xI x3]) (st' := []) (w' := w) rfl ?_
  refine x_br (fun c1 => ?_) (fun c1 => ?_)
  · skip
    exact (h.1 c1)
  · skip
    refine x_goN 3 (pc' := if x3 = x2 then 28 else 18) (ls' := [xA 7 2, xI x1, xI x2, xI x3]) (st' := []) (w' := w) rfl ?_
    refine x_br (fun c2 => ?_) (fun c2 => ?_)
    · skip
      exact ((h.2 c1).1 c2)
    · skip
      refine x_goN 3 (pc' := 23) (ls' := [xA 7 2, xI x1, xI x2, xI x3]) (st' := [xI x3, xA 108 78]) (w' := w) rfl ?_
      refine x_ob (P := vp_in x3 8) (pc' := 24) (ls' := [xA 7 2, xI x1, xI x2, xI x3]) (st' := [xI (w 78 x3.toNatClampNeg)]) (w' := w) rfl ((h.2 c1).2 c2).1 ?_
      refine x_goN 2 (pc' := 7) (ls' := [xA 7 2, xI x1, xI x2, xI (w 78 x3.toNatClampNeg)]) (st' := []) (w' := w) rfl ?_
      exact ((h.2 c1).2 c2).2
theorem G_Md_canBeUsed_28 {d : Nat} {x1 : Int32} {x2 : Int32} {x3 : Int32} {w : xWd} {Q : xMV → xWd → Prop} (h : ((x3 = x2 → ((x2 = 8 → Q (xI 0) w) ∧ (¬ (x2 = 8) → (vp_in x1 8 ∧ ((w 79 x1.toNatClampNeg = 0 → Q (xI 1) w) ∧ (¬ (w 79 x1.toNatClampNeg = 0) → (vp_in (2 * x1) 16 ∧ ((w 80 (2 * x1).toNatClampNeg = x2 → Q (xI 0) w) ∧ (¬ (w 80 (2 * x1).toNatClampNeg = x2) → Q (xI 1) w))))))))) ∧ (¬ (x3 = x2) → Q (xI 0) w))) : xWp d m_Md_canBeUsed 28 [xA 7 2, xI x1, xI x2, xI x3] [] w Q := by
  refine x_goN 3 (pc' := if x3 = x2 then 33 else 64) (ls' := [xA 7 2, xI x1, xI x2, xI x3]) (st' := []) (w' := w) rfl ?_
  refine x_br (fun c1 => ?_) (fun c1 => ?_)
  · skip
    refine x_goN 3 (pc' := if x2 = 8 then 64 else 39) (ls' := [xA 7 2, xI x1, xI x2, xI x3]) (st' := []) (w' := w) rfl ?_
    refine x_br (fun c2 => ?_) (fun c2 => ?_)
    · skip
      refine x_goN 1 (pc' := 65) (ls' := [xA 7 2, xI x1, xI x2, xI x3]) (st' := [xI 0]) (w' := w) rfl ?_
      exact x_ret (P := (0 : Int32) = 0 ∨ (0 : Int32) = 1) rfl (by decide) ((h.1 c1).1 c2)
    · skip
      refine x_goN 3 (pc' := 44) (ls' := [xA 7 2, xI x1, xI x2, xI x3]) (st' := [xI x1, xA 108 79]) (w' := w) rfl ?_
      refine x_ob (P := vp_in x1 8) (pc' := 45) (ls' := [xA 7 2, xI x1, xI x2, xI x3]) (st' := [xI (w 79 x1.toNatClampNeg)]) (w' := w) rfl ((h.1 c1).2 c2).1 ?_
      refine x_goN 1 (pc' := if w 79 x1.toNatClampNeg = 0 then 60 else 48) (ls' := [xA 7 2, xI x1, xI x2, xI x3]) (st' := []) (w' := w) rfl ?_
      refine x_br (fun c3 => ?_) (fun c3 => ?_)
      · skip
        refine x_goN 2 (pc' := 65) (ls' := [xA 7 2, xI x1, xI x2, xI x3]) (st' := [xI 1]) (w' := w) rfl ?_
        exact x_ret (P := (1 : Int32) = 0 ∨ (1 : Int32) = 1) rfl (by decide) (((h.1 c1).2 c2).2.1 c3)
      · skip
        refine x_goN 5 (pc' := 55) (ls' := [xA 7 2, xI x1, xI x2, xI x3]) (st' := [xI (2 * x1), xA 116 80]) (w' := w) rfl ?_
        refine x_ob (P := vp_in (2 * x1) 16) (pc' := 56) (ls' := [xA 7 2, xI x1, xI x2, xI x3]) (st' := [xI (w 80 (2 * x1).toNatClampNeg)]) (w' := w) rfl (((h.1 c1).2 c2).2.2 c3).1 ?_
        refine x_goN 2 (pc' := if w 80 (2 * x1).toNatClampNeg = x2 then 64 else 60) (ls' := [xA 7 2, xI x1, xI x2, xI x3]) (st' := []) (w' := w) rfl ?_
        refine x_br (fun c4 => ?_) (fun c4 => ?_)
        · skip
          refine x_goN 1 (pc' := 65) (ls' := [xA 7 2, xI x1, xI x2, xI x3]) (st' := [xI 0]) (w' := w) rfl ?_
          exact x_ret (P := (0 : Int32) = 0 ∨ (0 : Int32) = 1) rfl (by decide) ((((h.1 c1).2 c2).2.2 c3).2.1 c4)
        · skip
          refine x_goN 2 (pc' := 65) (ls' := [xA 7 2, xI x1, xI x2, xI x3]) (st' := [xI 1]) (w' := w) rfl ?_
          exact x_ret (P := (1 : Int32) = 0 ∨ (1 : Int32) = 1) rfl (by decide) ((((h.1 c1).2 c2).2.2 c3).2.2 c4)
  · skip
    refine x_goN 1 (pc' := 65) (ls' := [xA 7 2, xI x1, xI x2, xI x3]) (st' := [xI 0]) (w' := w) rfl ?_
    exact x_ret (P := (0 : Int32) = 0 ∨ (0 : Int32) = 1) rfl (by decide) (h.2 c1)
theorem S_cbu28 {d l : Nat} {T : xT} {v : Int32} {w : xWd} {Q : xMV → xWd → Prop} (hT : mT w T) (hW : tW T) (hl : tn T = l + 1) (hm : tm T l < 2) (h1 : fU v T → Q (xI 1) w) (h2 : ¬ fU v T → Q (xI 0) w) {s : Nat} (hs : s ≤ 8) (hy : nI s = v → s ≠ 8 → tb T l s = true) (hn : ¬ (nI s = v ∧ s ≠ 8) → ¬ ∃ c, v = nI c ∧ tb T l c = true) : xWp d m_Md_canBeUsed 28 [xA 7 2, xI (nI l), xI v, xI (nI s)] [] w Q := by
  have h8 := hW.1.1
  have hll : l < tn T := by omega
  obtain ⟨g1, g2, g3, g4⟩ := hT l hll
  have hno : ¬ (nI s = v ∧ s ≠ 8) → Q (xI 0) w := fun q => h2 (fun ⟨c, e, hc⟩ => hn q ⟨c, e, by
    have := hc.2.1
    rw [hl, Nat.add_sub_cancel] at this
    exact this⟩)
  refine G_Md_canBeUsed_28 ⟨fun c => ⟨fun c8 => hno (fun q => q.2 ?_), fun c8 => ?_⟩, fun c => hno (fun q => c q.1)⟩
  · rw [← c] at c8
    exact (z_eq (b := 8) (by omega) (by decide)).mp c8
  · have hs8 : s ≠ 8 := fun q => c8 (by rw [← c, q]; rfl)
    have hb := hy c hs8
    have hsl := tb_lt' hW.1 hll hb
    rw [show (2 : Int32) * nI l = nI (2 * l) from pk_mul 2 l, z_cl' (show l < 2 ^ 31 by omega), z_cl' (show 2 * l < 2 ^ 31 by omega), g3, z_eq0 (by omega)]
    have can : tr T l s = false → fU v T := fun hr => ⟨s, c.symm, by omega, by rw [hl, Nat.add_sub_cancel]; exact hb, by rw [hl, Nat.add_sub_cancel]; exact hm, by rw [hl, Nat.add_sub_cancel]; exact hr⟩
    refine ⟨z_in (by omega) (by decide), fun m0 => h1 (can ?_), fun m0 => ⟨z_in (by omega) (by decide), ?_⟩⟩
    · unfold tr
      rw [decide_eq_false (show ¬ 0 < tm T l by omega), decide_eq_false (show ¬ 1 < tm T l by omega)]; rfl
    · have m1 : tm T l = 1 := by omega
      have hu := tu_lt hW hll (show 0 < tm T l by omega)
      have g40 : w 80 (2 * l) = nI (tu T (2 * l)) := g4 0 (by omega)
      rw [Nat.add_zero] at hu
      rw [g40, ← c, z_eq (by omega) (by omega)]
      refine ⟨fun e => h2 (fun ⟨c', e', hc'⟩ => ?_), fun e => ?_⟩
      · have ec : s = c' := (z_eq (by omega) (by
          have := tb_lt' hW.1 (l := tn T - 1) (by omega) hc'.2.1
          omega)).mp (c.trans e')
        subst ec
        have hr := hc'.2.2.2
        rw [hl, Nat.add_sub_cancel] at hr
        rw [(tr_iff (show tm T l ≤ 2 by omega)).mpr ⟨0, by omega, e⟩] at hr
        cases hr
      · refine h1 (can ?_)
        apply Bool.eq_false_iff.mpr
        intro q
        obtain ⟨j, hj, ej⟩ := (tr_iff (show tm T l ≤ 2 by omega)).mp q
        have : j = 0 := by omega
        subst this
        exact e ej
theorem L_Md_canBeUsed {d l : Nat} {T : xT} {v : Int32} {w : xWd} {Q : xMV → xWd → Prop} (hT : mT w T) (hW : tW T) (hl : tn T = l + 1) (hm : tm T l < 2) (h1 : fU v T → Q (xI 1) w) (h2 : ¬ fU v T → Q (xI 0) w) : ∀ (f s : Nat), (s = 8 ∨ (s < tn T ∧ s ≤ f)) → (∀ c, s < 8 → (s = c ∨ tb T s c = true) → tb T l c = true) → (∀ c, tb T l c = true → v = nI c → (s < 8 ∧ (s = c ∨ tb T s c = true))) → xWp d m_Md_canBeUsed 7 [xA 7 2, xI (nI l), xI v, xI (nI s)] [] w Q := by
  have h8 := hW.1.1
  have at8 : (∀ c, tb T l c = true → v = nI c → False) → xWp d m_Md_canBeUsed 7 [xA 7 2, xI (nI l), xI v, xI (nI 8)] [] w Q := fun hz =>
    G_Md_canBeUsed_7 ⟨fun _ => S_cbu28 hT hW hl hm h1 h2 (Nat.le_refl _) (fun _ q => absurd rfl q) (fun _ ⟨c, e, hc⟩ => hz c hc e), fun c => absurd rfl c⟩
  have here : ∀ s, s < tn T → (∀ c, s < 8 → (s = c ∨ tb T s c = true) → tb T l c = true) → nI s = v → xWp d m_Md_canBeUsed 28 [xA 7 2, xI (nI l), xI v, xI (nI s)] [] w Q := fun s hs up e =>
    S_cbu28 hT hW hl hm h1 h2 (by omega) (fun _ _ => up s (by omega) (Or.inl rfl)) (fun q => absurd ⟨e, by omega⟩ q)
  intro f
  induction f with
  | zero =>
    intro s hs up dn
    by_cases e8 : s = 8
    · subst e8
      exact at8 (fun c hc e => by have := (dn c hc e).1; omega)
    · have hsn : s < tn T := by omega
      have s0 : s = 0 := by omega
      subst s0
      refine G_Md_canBeUsed_7 ⟨fun c => absurd c (by decide), fun _ => ⟨fun e => here 0 hsn up e, fun e => ⟨z_in (by omega) (by decide), ?_⟩⟩⟩
      obtain ⟨g1, g2, g3, g4⟩ := hT 0 hsn
      rw [z_cl' (by omega), g2, (hW.1.2 0 hsn).1 rfl]
      refine at8 (fun c hc ev => ?_)
      obtain ⟨_, q⟩ := dn c hc ev
      rcases q with q | q
      · subst q; exact e ev.symm
      · rw [tb_0 hW.1 hsn] at q; cases q
  | succ f ih =>
    intro s hs up dn
    by_cases e8 : s = 8
    · subst e8
      exact at8 (fun c hc e => by have := (dn c hc e).1; omega)
    · have hsn : s < tn T := by omega
      refine G_Md_canBeUsed_7 ⟨fun c => absurd ((z_eq (b := 8) (by omega) (by decide)).mp c) e8, fun _ => ⟨fun e => here s hsn up e, fun e => ⟨z_in (by omega) (by decide), ?_⟩⟩⟩
      obtain ⟨g1, g2, g3, g4⟩ := hT s hsn
      rw [z_cl' (by omega), g2]
      by_cases s0 : s = 0
      · subst s0
        rw [(hW.1.2 0 hsn).1 rfl]
        refine at8 (fun c hc ev => ?_)
        obtain ⟨_, q⟩ := dn c hc ev
        rcases q with q | q
        · subst q; exact e ev.symm
        · rw [tb_0 hW.1 hsn] at q; cases q
      · have hta := (hW.1.2 s hsn).2 (by omega)
        refine ih (ta T s) (Or.inr ⟨by omega, by omega⟩) (fun c _ q => up c (by omega) (Or.inr ?_)) (fun c hc ev => ⟨by omega, ?_⟩)
        · rw [tb_s hW.1 hsn (by omega), Bool.or_eq_true]
          rcases q with q | q
          · exact Or.inl (decide_eq_true q)
          · exact Or.inr q
        · obtain ⟨_, q⟩ := dn c hc ev
          rcases q with q | q
          · subst q; exact absurd ev.symm e
          · rw [tb_s hW.1 hsn (by omega), Bool.or_eq_true] at q
            rcases q with q | q
            · exact Or.inl (of_decide_eq_true q)
            · exact Or.inr q
theorem S_Md_canBeUsed {d l : Nat} {T : xT} {v : Int32} {w : xWd} {Q : xMV → xWd → Prop} (hT : mT w T) (hW : tW T) (hl : tn T = l + 1) (hm : tm T l < 2) (h1 : fU v T → Q (xI 1) w) (h2 : ¬ fU v T → Q (xI 0) w) : xWp d m_Md_canBeUsed 0 [xA 7 2, xI (nI l), xI v, xU] [] w Q := by
  have h8 := hW.1.1
  have hll : l < tn T := by omega
  obtain ⟨g1, g2, g3, g4⟩ := hT l hll
  refine G_Md_canBeUsed_0 ⟨z_in (by omega) (by decide), ?_⟩
  rw [z_cl' (by omega), g2]
  by_cases l0 : l = 0
  · have e8 : ta T l = 8 := (hW.1.2 l hll).1 l0
    have hz : ∀ c, tb T l c = false := fun c => by rw [l0]; exact tb_0 hW.1 (by omega) c
    rw [e8]
    exact L_Md_canBeUsed hT hW hl hm h1 h2 8 8 (Or.inl rfl) (fun c q => absurd q (by decide)) (fun c q => by rw [hz c] at q; cases q)
  · have hta := (hW.1.2 l hll).2 (by omega)
    refine L_Md_canBeUsed hT hW hl hm h1 h2 8 (ta T l) (Or.inr ⟨by omega, by omega⟩) (fun c _ q => ?_) (fun c hc _ => ⟨by omega, ?_⟩)
    · rw [tb_s hW.1 hll (by omega), Bool.or_eq_true]
      rcases q with q | q
      · exact Or.inl (decide_eq_true q)
      · exact Or.inr q
    · rw [tb_s hW.1 hll (by omega), Bool.or_eq_true] at hc
      rcases hc with q | q
      · exact Or.inl (of_decide_eq_true q)
      · exact Or.inr q
theorem fU_59 {T : xT} (h : tCh T) : ¬ fU ((59 : Int32) - 48) T := by
  rintro ⟨c, e, hc⟩
  have h8 := h.1
  have hlt := tb_lt' h (l := tn T - 1) (by have := hc.1; omega) hc.2.1
  have e' : nI 11 = nI c := e
  have := (z_eq (by omega) (by omega)).mp e'
  omega
theorem a_use {c : Int32} {kd : Nat} {T : xT} (hW : tCh T) (h : fU (c - 48) T) : a_st c (4, kd, T) = some (4, kd, tUse T (c - 48).toNatClampNeg) := by
  rw [a_st4, if_neg (fun e => by rw [e] at h; exact fU_59 hW h), if_pos h]
theorem a_no4 {c : Int32} {kd : Nat} {T : xT} (h59 : c ≠ 59) (h : ¬ fU (c - 48) T) : a_st c (4, kd, T) = none := by
  rw [a_st4, if_neg h59, if_neg h]
theorem mT_use {w w1 w2 : xWd} {T : xT} {l c : Nat} (hT : mT w T) (hW : tW T) (hl : tn T = l + 1) (hm : tm T l < 2) (e1 : w1 = x_set w 80 (2 * l + tm T l) (nI c)) (e2 : w2 = x_set w1 79 l (nI (tm T l + 1))) : mT w2 (tUse T c) := by
  have el : tn T - 1 = l := by omega
  intro j hj
  have hj' : j < tn T := hj
  obtain ⟨g1, g2, g3, g4⟩ := hT j hj'
  have hmj := (hW.2 j hj').2.1
  have a7 : w2 77 = w 77 := by rw [e2, x_set_o (by decide), e1, x_set_o (by decide)]
  have a8 : w2 78 = w 78 := by rw [e2, x_set_o (by decide), e1, x_set_o (by decide)]
  have a9 : w2 79 = upd (w 79) l (nI (tm T l + 1)) := by rw [e2, x_set_s, e1, x_set_o (by decide)]
  have a0 : w2 80 = upd (w 80) (2 * l + tm T l) (nI c) := by rw [e2, x_set_o (by decide), e1, x_set_s]
  rw [a7, a8, a9, a0]
  refine ⟨g1, g2, ?_, fun i hi => ?_⟩
  · by_cases e : j = l
    · have := tUse_mn (T := T) (v := c)
      rw [el] at this
      rw [e, upd_s, this]
    · rw [upd_o e, tUse_m (by omega)]; exact g3
  · by_cases e : j = l
    · subst e
      have hmn := tUse_mn (T := T) (v := c)
      rw [el] at hmn
      rw [hmn] at hi
      by_cases ei : i = tm T j
      · have hun := tUse_un (T := T) (v := c)
        rw [el] at hun
        rw [ei, upd_s, hun]
      · rw [upd_o (by omega), tUse_u (by rw [el]; omega)]; exact g4 i (by omega)
    · rw [tUse_m (by omega)] at hi
      rw [upd_o (by omega), tUse_u (by rw [el]; omega)]; exact g4 i hi
theorem G_Md_readLine_0 {d : Nat} {x1 : Int32} {x2 : Int32} {w : xWd} {Q : xMV → xWd → Prop} (h : ((x1 ≤ w 2 10 → xWp (d + 1) m_Md_readLine 22 [xA 7 2, xI x1, xI x2, xI 0] [] w Q) ∧ (¬ (x1 ≤ w 2 10) → (vp_in (w 2 10) 240 ∧ xWp (d + 1) m_Md_readLine 22 [xA 7 2, xI x1, xI x2, xI (w 69 (w 2 10).toNatClampNeg)] [] w Q)))) : xWp (d + 1) m_Md_readLine 0 [xA 7 2, xI x1, xI x2, xU] [] w Q := by
  refine x_goN 4 (pc' := if x1 ≤ w 2 10 then 20 else 8) (ls' := [xA 7 2, xI x1, xI x2, xU]) (st' := []) (w' := w) rfl ?_
  refine x_br (fun c1 => ?_) (fun c1 => ?_)
  · skip
    refine x_goN 2 (pc' := 22) (ls' := [xA 7 2, xI x1, xI x2, xI 0]) (st' := []) (w' := w) rfl ?_
    exact (h.1 c1)
  · skip
    refine x_goN 4 (pc' := 16) (ls' := [xA 7 2, xI x1, xI x2, xU]) (st' := [xI (w 2 10), xA 340 69]) (w' := w) rfl ?_
    refine x_ob (P := vp_in (w 2 10) 240) (pc' := 17) (ls' := [xA 7 2, xI x1, xI x2, xU]) (st' := [xI (w 69 (w 2 10).toNatClampNeg)]) (w' := w) rfl (h.2 c1).1 ?_
    refine x_goN 2 (pc' := 22) (ls' := [xA 7 2, xI x1, xI x2, xI (w 69 (w 2 10).toNatClampNeg)]) (st' := []) (w' := w) rfl ?_
    exact (h.2 c1).2
theorem G_Md_readLine_22 {d : Nat} {x1 : Int32} {x2 : Int32} {x3 : Int32} {w : xWd} {Q : xMV → xWd → Prop} (h : ((x3 = 112 → (vp_in x2 8 ∧ ∀ w1 : xWd, w1 = x_set w 77 x2.toNatClampNeg 0 → xWp (d + 1) m_Md_readLine 60 [xA 7 2, xI x1, xI x2, xI x3] [] w1 Q)) ∧ (¬ (x3 = 112) → ((x3 = 98 → (vp_in x2 8 ∧ ∀ w2 : xWd, w2 = x_set w 77 x2.toNatClampNeg 1 → xWp (d + 1) m_Md_readLine 60 [xA 7 2, xI x1, xI x2, xI x3] [] w2 Q)) ∧ (¬ (x3 = 98) → ((x3 = 100 → (vp_in x2 8 ∧ ∀ w3 : xWd, w3 = x_set w 77 x2.toNatClampNeg 2 → xWp (d + 1) m_Md_readLine 60 [xA 7 2, xI x1, xI x2, xI x3] [] w3 Q)) ∧ (¬ (x3 = 100) → (vp_in x2 8 ∧ ∀ w4 : xWd, w4 = x_set w 77 x2.toNatClampNeg (-9) → xWp (d + 1) m_Md_readLine 60 [xA 7 2, xI x1, xI x2, xI x3] [] w4 Q)))))))) : xWp (d + 1) m_Md_readLine 22 [xA 7 2, xI x1, xI x2, xI x3] [] w Q := by
  refine x_goN 6 (pc' := if x3 = 112 then 33 else 37) (ls' := [xA 7 2, xI x1, xI x2, xI x3]) (st' := [xI x2, xA 108 77]) (w' := w) rfl ?_
  refine x_br (fun c1 => ?_) (fun c1 => ?_)
  · skip
    refine x_goN 2 (pc' := 59) (ls' := [xA 7 2, xI x1, xI x2, xI x3]) (st' := [xI 0, xI x2, xA 108 77]) (w' := w) rfl ?_
    refine x_obW (P := vp_in x2 8) (pc' := 60) (ls' := [xA 7 2, xI x1, xI x2, xI x3]) (st' := []) (w' := x_set w 77 x2.toNatClampNeg 0) rfl (h.1 c1).1 (fun w1 ew1 => ?_)
    exact ((h.1 c1).2 w1 ew1)
  · skip
    refine x_goN 3 (pc' := if x3 = 98 then 43 else 47) (ls' := [xA 7 2, xI x1, xI x2, xI x3]) (st' := [xI x2, xA 108 77]) (w' := w) rfl ?_
    refine x_br (fun c2 => ?_) (fun c2 => ?_)
    · skip
      refine x_goN 2 (pc' := 59) (ls' := [xA 7 2, xI x1, xI x2, xI x3]) (st' := [xI 1, xI x2, xA 108 77]) (w' := w) rfl ?_
      refine x_obW (P := vp_in x2 8) (pc' := 60) (ls' := [xA 7 2, xI x1, xI x2, xI x3]) (st' := []) (w' := x_set w 77 x2.toNatClampNeg 1) rfl ((h.2 c1).1 c2).1 (fun w2 ew2 => ?_)
      exact (((h.2 c1).1 c2).2 w2 ew2)
    · skip
      refine x_goN 3 (pc' := if x3 = 100 then 53 else 57) (ls' := [xA 7 2, xI x1, xI x2, xI x3]) (st' := [xI x2, xA 108 77]) (w' := w) rfl ?_
      refine x_br (fun c3 => ?_) (fun c3 => ?_)
      · skip
        refine x_goN 2 (pc' := 59) (ls' := [xA 7 2, xI x1, xI x2, xI x3]) (st' := [xI 2, xI x2, xA 108 77]) (w' := w) rfl ?_
        refine x_obW (P := vp_in x2 8) (pc' := 60) (ls' := [xA 7 2, xI x1, xI x2, xI x3]) (st' := []) (w' := x_set w 77 x2.toNatClampNeg 2) rfl (((h.2 c1).2 c2).1 c3).1 (fun w3 ew3 => ?_)
        exact ((((h.2 c1).2 c2).1 c3).2 w3 ew3)
      · skip
        refine x_goN 1 (pc' := 59) (ls' := [xA 7 2, xI x1, xI x2, xI x3]) (st' := [xI (-9), xI x2, xA 108 77]) (w' := w) rfl ?_
        refine x_obW (P := vp_in x2 8) (pc' := 60) (ls' := [xA 7 2, xI x1, xI x2, xI x3]) (st' := []) (w' := x_set w 77 x2.toNatClampNeg (-9)) rfl (((h.2 c1).2 c2).2 c3).1 (fun w4 ew4 => ?_)
        exact ((((h.2 c1).2 c2).2 c3).2 w4 ew4)
theorem G_Md_readLine_60 {d : Nat} {x1 : Int32} {x2 : Int32} {x3 : Int32} {w : xWd} {Q : xMV → xWd → Prop} (h : (vp_in x2 8 ∧ ((w 77 x2.toNatClampNeg = (-9) → Q (xI 0) w) ∧ (¬ (w 77 x2.toNatClampNeg = (-9)) → xWp (d + 1) m_Md_readLine 73 [xA 7 2, xI x1, xI x2, xI x3] [] w Q)))) : xWp (d + 1) m_Md_readLine 60 [xA 7 2, xI x1, xI x2, xI x3] [] w Q := by
  refine x_goN 3 (pc' := 65) (ls' := [xA 7 2, xI x1, xI x2, xI x3]) (st' := [xI x2, xA 108 77]) (w' := w) rfl ?_
  refine x_ob (P := vp_in x2 8) (pc' := 66) (ls' := [xA 7 2, xI x1, xI x2, xI x3]) (st' := [xI (w 77 x2.toNatClampNeg)]) (w' := w) rfl h.1 ?_
  refine x_goN 2 (pc' := if w 77 x2.toNatClampNeg = (-9) then 71 else 73) (ls' := [xA 7 2, xI x1, xI x2, xI x3]) (st' := []) (w' := w) rfl ?_
  refine x_br (fun c1 => ?_) (fun c1 => ?_)
  · skip
    refine x_goN 1 (pc' := 72) (ls' := [xA 7 2, xI x1, xI x2, xI x3]) (st' := [xI 0]) (w' := w) rfl ?_
    exact x_ret (P := (0 : Int32) = 0 ∨ (0 : Int32) = 1) rfl (by decide) (h.2.1 c1)
  · skip
    exact (h.2.2 c1)
theorem G_Md_readLine_73 {d : Nat} {x1 : Int32} {x2 : Int32} {x3 : Int32} {w : xWd} {Q : xMV → xWd → Prop} (h : (∀ w1 : xWd, w1 = x_set w 2 10 ((w 2 10) + 1) → ((x2 = 0 → xWp d m_Md_isSign 0 [xA 7 2, xI x1, xI 45] [] w1 (fun a w' => xWp (d + 1) m_Md_readLine 94 [xA 7 2, xI x1, xI x2, xI x3] (x_pu a []) w' Q)) ∧ (¬ (x2 = 0) → ((x1 ≤ w1 2 10 → Q (xI 0) w1) ∧ (¬ (x1 ≤ w1 2 10) → (vp_in (w1 2 10) 240 ∧ ((p_wi (w1 69 (w1 2 10).toNatClampNeg) 48 (47 + x2) → (vp_in (w1 2 10) 240 ∧ (vp_in x2 8 ∧ ∀ w2 : xWd, w2 = x_set w1 78 x2.toNatClampNeg ((w1 69 (w1 2 10).toNatClampNeg) - 48) → (∀ w3 : xWd, w3 = x_set w2 2 10 ((w2 2 10) + 1) → xWp (d + 1) m_Md_readLine 169 [xA 7 2, xI x1, xI x2, xI x3] [] w3 Q)))) ∧ (¬ (p_wi (w1 69 (w1 2 10).toNatClampNeg) 48 (47 + x2)) → Q (xI 0) w1))))))))) : xWp (d + 1) m_Md_readLine 73 [xA 7 2, xI x1, xI x2, xI x3] [] w Q := by
  refine x_goN 5 (pc' := 80) (ls' := [xA 7 2, xI x1, xI x2, xI x3]) (st' := [xI ((w 2 10) + 1), xA 7 2]) (w' := w) rfl ?_
  refine x_goW (pc' := 83) (ls' := [xA 7 2, xI x1, xI x2, xI x3]) (st' := []) (w' := x_set w 2 10 ((w 2 10) + 1)) rfl (fun w1 ew1 => ?_)
  refine x_goN 2 (pc' := if x2 = 0 then 87 else 110) (ls' := [xA 7 2, xI x1, xI x2, xI x3]) (st' := []) (w' := w1) rfl ?_
  refine x_br (fun c1 => ?_) (fun c1 => ?_)
  · skip
    refine x_goN 3 (pc' := 91) (ls' := [xA 7 2, xI x1, xI x2, xI x3]) (st' := [xI 45, xI x1, xA 7 2]) (w' := w1) rfl ?_
    refine x_call (y := m_Md_isSign) (as := [xA 7 2, xI x1, xI 45]) (rst := []) rfl [xA 7 2, xI x1, xI 45] rfl ?_
    exact ((h w1 ew1).1 c1)
  · skip
    refine x_goN 4 (pc' := if x1 ≤ w1 2 10 then 139 else 118) (ls' := [xA 7 2, xI x1, xI x2, xI x3]) (st' := []) (w' := w1) rfl ?_
    refine x_br (fun c2 => ?_) (fun c2 => ?_)
    · skip
      refine x_goN 1 (pc' := 140) (ls' := [xA 7 2, xI x1, xI x2, xI x3]) (st' := [xI 0]) (w' := w1) rfl ?_
      exact x_ret (P := (0 : Int32) = 0 ∨ (0 : Int32) = 1) rfl (by decide) (((h w1 ew1).2 c1).1 c2)
    · skip
      refine x_goN 4 (pc' := 126) (ls' := [xA 7 2, xI x1, xI x2, xI x3]) (st' := [xI (w1 2 10), xA 340 69]) (w' := w1) rfl ?_
      refine x_ob (P := vp_in (w1 2 10) 240) (pc' := 127) (ls' := [xA 7 2, xI x1, xI x2, xI x3]) (st' := [xI (w1 69 (w1 2 10).toNatClampNeg)]) (w' := w1) rfl (((h w1 ew1).2 c1).2 c2).1 ?_
      refine x_goN 4 (pc' := 133) (ls' := [xA 7 2, xI x1, xI x2, xI x3]) (st' := [xI (47 + x2), xI 48, xI (w1 69 (w1 2 10).toNatClampNeg)]) (w' := w1) rfl ?_
      refine x_call (y := m_Md_within) (as := [xI (w1 69 (w1 2 10).toNatClampNeg), xI 48, xI (47 + x2)]) (rst := []) rfl [xI (w1 69 (w1 2 10).toNatClampNeg), xI 48, xI (47 + x2)] rfl ?_
      refine S_Md_within (fun c3 => ?_) (fun c3 => ?_)
      · skip
        refine x_goN 1 (pc' := if (1 : Int32) = (0 : Int32) then 139 else 141) (ls' := [xA 7 2, xI x1, xI x2, xI x3]) (st' := []) (w' := w1) rfl ?_
        refine x_brF (by decide) ?_
        refine x_goN 7 (pc' := 154) (ls' := [xA 7 2, xI x1, xI x2, xI x3]) (st' := [xI (w1 2 10), xA 340 69, xI x2, xA 108 78]) (w' := w1) rfl ?_
        refine x_ob (P := vp_in (w1 2 10) 240) (pc' := 155) (ls' := [xA 7 2, xI x1, xI x2, xI x3]) (st' := [xI (w1 69 (w1 2 10).toNatClampNeg), xI x2, xA 108 78]) (w' := w1) rfl ((((h w1 ew1).2 c1).2 c2).2.1 c3).1 ?_
        refine x_goN 2 (pc' := 158) (ls' := [xA 7 2, xI x1, xI x2, xI x3]) (st' := [xI ((w1 69 (w1 2 10).toNatClampNeg) - 48), xI x2, xA 108 78]) (w' := w1) rfl ?_
        refine x_obW (P := vp_in x2 8) (pc' := 159) (ls' := [xA 7 2, xI x1, xI x2, xI x3]) (st' := []) (w' := x_set w1 78 x2.toNatClampNeg ((w1 69 (w1 2 10).toNatClampNeg) - 48)) rfl ((((h w1 ew1).2 c1).2 c2).2.1 c3).2.1 (fun w2 ew2 => ?_)
        refine x_goN 5 (pc' := 166) (ls' := [xA 7 2, xI x1, xI x2, xI x3]) (st' := [xI ((w2 2 10) + 1), xA 7 2]) (w' := w2) rfl ?_
        refine x_goW (pc' := 169) (ls' := [xA 7 2, xI x1, xI x2, xI x3]) (st' := []) (w' := x_set w2 2 10 ((w2 2 10) + 1)) rfl (fun w3 ew3 => ?_)
        exact ((((((h w1 ew1).2 c1).2 c2).2.1 c3).2.2 w2 ew2) w3 ew3)
      · skip
        refine x_goN 1 (pc' := if (0 : Int32) = (0 : Int32) then 139 else 141) (ls' := [xA 7 2, xI x1, xI x2, xI x3]) (st' := []) (w' := w1) rfl ?_
        refine x_brT (by decide) ?_
        refine x_goN 1 (pc' := 140) (ls' := [xA 7 2, xI x1, xI x2, xI x3]) (st' := [xI 0]) (w' := w1) rfl ?_
        exact x_ret (P := (0 : Int32) = 0 ∨ (0 : Int32) = 1) rfl (by decide) ((((h w1 ew1).2 c1).2 c2).2.2 c3)
theorem G_Md_readLine_94 {d : Nat} {x1 : Int32} {x2 : Int32} {x3 : Int32} {s0 : Int32} {w : xWd} {Q : xMV → xWd → Prop} (h : ((s0 = 0 → Q (xI 0) w) ∧ (¬ (s0 = 0) → (∀ w1 : xWd, w1 = x_set w 78 0 8 → xWp (d + 1) m_Md_readLine 169 [xA 7 2, xI x1, xI x2, xI x3] [] w1 Q)))) : xWp (d + 1) m_Md_readLine 94 [xA 7 2, xI x1, xI x2, xI x3] [xI s0] w Q := by
  refine x_goN 1 (pc' := if s0 = 0 then 97 else 99) (ls' := [xA 7 2, xI x1, xI x2, xI x3]) (st' := []) (w' := w) rfl ?_
  refine x_br (fun c1 => ?_) (fun c1 => ?_)
  · skip
    refine x_goN 1 (pc' := 98) (ls' := [xA 7 2, xI x1, xI x2, xI x3]) (st' := [xI 0]) (w' := w) rfl ?_
    exact x_ret (P := (0 : Int32) = 0 ∨ (0 : Int32) = 1) rfl (by decide) (h.1 c1)
  · skip
    refine x_goN 4 (pc' := 106) (ls' := [xA 7 2, xI x1, xI x2, xI x3]) (st' := [xI 8, xI 0, xA 108 78]) (w' := w) rfl ?_
    refine x_obW (P := vp_in 0 8) (pc' := 107) (ls' := [xA 7 2, xI x1, xI x2, xI x3]) (st' := []) (w' := x_set w 78 0 8) rfl (by unfold vp_in; decide) (fun w1 ew1 => ?_)
    refine x_goN 1 (pc' := 169) (ls' := [xA 7 2, xI x1, xI x2, xI x3]) (st' := []) (w' := w1) rfl ?_
    exact ((h.2 c1) w1 ew1)
theorem G_Md_readLine_169 {d : Nat} {x1 : Int32} {x2 : Int32} {x3 : Int32} {w : xWd} {Q : xMV → xWd → Prop} (h : (vp_in x2 8 ∧ ∀ w1 : xWd, w1 = x_set w 79 x2.toNatClampNeg 0 → xWp (d + 1) m_Md_readLine 176 [xA 7 2, xI x1, xI x2, xI x3] [] w1 Q)) : xWp (d + 1) m_Md_readLine 169 [xA 7 2, xI x1, xI x2, xI x3] [] w Q := by
  refine x_goN 4 (pc' := 175) (ls' := [xA 7 2, xI x1, xI x2, xI x3]) (st' := [xI 0, xI x2, xA 108 79]) (w' := w) rfl ?_
  refine x_obW (P := vp_in x2 8) (pc' := 176) (ls' := [xA 7 2, xI x1, xI x2, xI x3]) (st' := []) (w' := x_set w 79 x2.toNatClampNeg 0) rfl h.1 (fun w1 ew1 => ?_)
  exact (h.2 w1 ew1)
theorem G_Md_readLine_176 {d : Nat} {x1 : Int32} {x2 : Int32} {x3 : Int32} {w : xWd} {Q : xMV → xWd → Prop} (h : (vp_in x2 8 ∧ ((2 ≤ w 79 x2.toNatClampNeg → Q (xI 1) w) ∧ (¬ (2 ≤ w 79 x2.toNatClampNeg) → ((x1 ≤ w 2 10 → Q (xI 1) w) ∧ (¬ (x1 ≤ w 2 10) → (vp_in (w 2 10) 240 ∧ xWp d m_Md_canBeUsed 0 [xA 7 2, xI x2, xI ((w 69 (w 2 10).toNatClampNeg) - 48), xU] [] w (fun a w' => xWp (d + 1) m_Md_readLine 211 [xA 7 2, xI x1, xI x2, xI x3] (x_pu a []) w' Q)))))))) : xWp (d + 1) m_Md_readLine 176 [xA 7 2, xI x1, xI x2, xI x3] [] w Q := by
  refine x_goN 3 (pc' := 181) (ls' := [xA 7 2, xI x1, xI x2, xI x3]) (st' := [xI x2, xA 108 79]) (w' := w) rfl ?_
  refine x_ob (P := vp_in x2 8) (pc' := 182) (ls' := [xA 7 2, xI x1, xI x2, xI x3]) (st' := [xI (w 79 x2.toNatClampNeg)]) (w' := w) rfl h.1 ?_
  refine x_goN 2 (pc' := if 2 ≤ w 79 x2.toNatClampNeg then 264 else 186) (ls' := [xA 7 2, xI x1, xI x2, xI x3]) (st' := []) (w' := w) rfl ?_
  refine x_br (fun c1 => ?_) (fun c1 => ?_)
  · skip
    refine x_goN 1 (pc' := 265) (ls' := [xA 7 2, xI x1, xI x2, xI x3]) (st' := [xI 1]) (w' := w) rfl ?_
    exact x_ret (P := (1 : Int32) = 0 ∨ (1 : Int32) = 1) rfl (by decide) (h.2.1 c1)
  · skip
    refine x_goN 4 (pc' := if x1 ≤ w 2 10 then 264 else 194) (ls' := [xA 7 2, xI x1, xI x2, xI x3]) (st' := []) (w' := w) rfl ?_
    refine x_br (fun c2 => ?_) (fun c2 => ?_)
    · skip
      refine x_goN 1 (pc' := 265) (ls' := [xA 7 2, xI x1, xI x2, xI x3]) (st' := [xI 1]) (w' := w) rfl ?_
      exact x_ret (P := (1 : Int32) = 0 ∨ (1 : Int32) = 1) rfl (by decide) ((h.2.2 c1).1 c2)
    · skip
      refine x_goN 6 (pc' := 204) (ls' := [xA 7 2, xI x1, xI x2, xI x3]) (st' := [xI (w 2 10), xA 340 69, xI x2, xA 7 2]) (w' := w) rfl ?_
      refine x_ob (P := vp_in (w 2 10) 240) (pc' := 205) (ls' := [xA 7 2, xI x1, xI x2, xI x3]) (st' := [xI (w 69 (w 2 10).toNatClampNeg), xI x2, xA 7 2]) (w' := w) rfl ((h.2.2 c1).2 c2).1 ?_
      refine x_goN 2 (pc' := 208) (ls' := [xA 7 2, xI x1, xI x2, xI x3]) (st' := [xI ((w 69 (w 2 10).toNatClampNeg) - 48), xI x2, xA 7 2]) (w' := w) rfl ?_
      refine x_call (y := m_Md_canBeUsed) (as := [xA 7 2, xI x2, xI ((w 69 (w 2 10).toNatClampNeg) - 48)]) (rst := []) rfl [xA 7 2, xI x2, xI ((w 69 (w 2 10).toNatClampNeg) - 48), xU] rfl ?_
      exact ((h.2.2 c1).2 c2).2
theorem G_Md_readLine_211 {d : Nat} {x1 : Int32} {x2 : Int32} {x3 : Int32} {s0 : Int32} {w : xWd} {Q : xMV → xWd → Prop} (h : ((s0 = 0 → Q (xI 1) w) ∧ (¬ (s0 = 0) → (vp_in x2 8 ∧ (vp_in (w 2 10) 240 ∧ (vp_in ((2 * x2) + (w 79 x2.toNatClampNeg)) 16 ∧ ∀ w1 : xWd, w1 = x_set w 80 (((2 * x2) + (w 79 x2.toNatClampNeg)).toNatClampNeg) ((w 69 (w 2 10).toNatClampNeg) - 48) → (vp_in x2 8 ∧ (vp_in x2 8 ∧ ∀ w2 : xWd, w2 = x_set w1 79 x2.toNatClampNeg ((w1 79 x2.toNatClampNeg) + 1) → (∀ w3 : xWd, w3 = x_set w2 2 10 ((w2 2 10) + 1) → xWp (d + 1) m_Md_readLine 176 [xA 7 2, xI x1, xI x2, xI x3] [] w3 Q))))))))) : xWp (d + 1) m_Md_readLine 211 [xA 7 2, xI x1, xI x2, xI x3] [xI s0] w Q := by
  refine x_goN 1 (pc' := if s0 = 0 then 264 else 214) (ls' := [xA 7 2, xI x1, xI x2, xI x3]) (st' := []) (w' := w) rfl ?_
  refine x_br (fun c1 => ?_) (fun c1 => ?_)
  · skip
    refine x_goN 1 (pc' := 265) (ls' := [xA 7 2, xI x1, xI x2, xI x3]) (st' := [xI 1]) (w' := w) rfl ?_
    exact x_ret (P := (1 : Int32) = 0 ∨ (1 : Int32) = 1) rfl (by decide) (h.1 c1)
  · skip
    refine x_goN 8 (pc' := 226) (ls' := [xA 7 2, xI x1, xI x2, xI x3]) (st' := [xI x2, xA 108 79, xI (2 * x2), xA 116 80]) (w' := w) rfl ?_
    refine x_ob (P := vp_in x2 8) (pc' := 227) (ls' := [xA 7 2, xI x1, xI x2, xI x3]) (st' := [xI (w 79 x2.toNatClampNeg), xI (2 * x2), xA 116 80]) (w' := w) rfl (h.2 c1).1 ?_
    refine x_goN 5 (pc' := 236) (ls' := [xA 7 2, xI x1, xI x2, xI x3]) (st' := [xI (w 2 10), xA 340 69, xI ((2 * x2) + (w 79 x2.toNatClampNeg)), xA 116 80]) (w' := w) rfl ?_
    refine x_ob (P := vp_in (w 2 10) 240) (pc' := 237) (ls' := [xA 7 2, xI x1, xI x2, xI x3]) (st' := [xI (w 69 (w 2 10).toNatClampNeg), xI ((2 * x2) + (w 79 x2.toNatClampNeg)), xA 116 80]) (w' := w) rfl (h.2 c1).2.1 ?_
    refine x_goN 2 (pc' := 240) (ls' := [xA 7 2, xI x1, xI x2, xI x3]) (st' := [xI ((w 69 (w 2 10).toNatClampNeg) - 48), xI ((2 * x2) + (w 79 x2.toNatClampNeg)), xA 116 80]) (w' := w) rfl ?_
    refine x_obW (P := vp_in ((2 * x2) + (w 79 x2.toNatClampNeg)) 16) (pc' := 241) (ls' := [xA 7 2, xI x1, xI x2, xI x3]) (st' := []) (w' := x_set w 80 (((2 * x2) + (w 79 x2.toNatClampNeg)).toNatClampNeg) ((w 69 (w 2 10).toNatClampNeg) - 48)) rfl (h.2 c1).2.2.1 (fun w1 ew1 => ?_)
    refine x_goN 4 (pc' := 247) (ls' := [xA 7 2, xI x1, xI x2, xI x3]) (st' := [xI x2, xA 108 79, xI x2, xA 108 79]) (w' := w1) rfl ?_
    refine x_ob (P := vp_in x2 8) (pc' := 248) (ls' := [xA 7 2, xI x1, xI x2, xI x3]) (st' := [xI (w1 79 x2.toNatClampNeg), xI x2, xA 108 79]) (w' := w1) rfl ((h.2 c1).2.2.2 w1 ew1).1 ?_
    refine x_goN 2 (pc' := 250) (ls' := [xA 7 2, xI x1, xI x2, xI x3]) (st' := [xI ((w1 79 x2.toNatClampNeg) + 1), xI x2, xA 108 79]) (w' := w1) rfl ?_
    refine x_obW (P := vp_in x2 8) (pc' := 251) (ls' := [xA 7 2, xI x1, xI x2, xI x3]) (st' := []) (w' := x_set w1 79 x2.toNatClampNeg ((w1 79 x2.toNatClampNeg) + 1)) rfl ((h.2 c1).2.2.2 w1 ew1).2.1 (fun w2 ew2 => ?_)
    refine x_goN 5 (pc' := 258) (ls' := [xA 7 2, xI x1, xI x2, xI x3]) (st' := [xI ((w2 2 10) + 1), xA 7 2]) (w' := w2) rfl ?_
    refine x_goW (pc' := 261) (ls' := [xA 7 2, xI x1, xI x2, xI x3]) (st' := []) (w' := x_set w2 2 10 ((w2 2 10) + 1)) rfl (fun w3 ew3 => ?_)
    refine x_goN 1 (pc' := 176) (ls' := [xA 7 2, xI x1, xI x2, xI x3]) (st' := []) (w' := w3) rfl ?_
    exact ((((h.2 c1).2.2.2 w1 ew1).2.2 w2 ew2) w3 ew3)
theorem L_Md_use {d b n l kd M : Nat} {F : Nat → Int32} {w0 : xWd} {Q : xMV → xWd → Prop} {R : Nat ⊕ xT} {x3 : Int32} (hb : b + n ≤ 240) (hl8 : l < 8) (hF : ∀ j, j < n → w0 69 (b + j) = F j) (hok : ∀ (w' : xWd) (T' : xT) (m' p' : Nat), p' + m' = n → m' ≤ M → R = a_go F m' p' (4, kd, T') → tW T' → tn T' = l + 1 → mT w' T' → w' 2 10 = nI (b + p') → (m' = 0 ∨ ¬ fU (F p' - 48) T') → fRl w0 w' → Q (xI 1) w') : ∀ (m p : Nat) (w : xWd) (T1 : xT), p + m = n → m ≤ M → R = a_go F m p (4, kd, T1) → tW T1 → tn T1 = l + 1 → mT w T1 → w 2 10 = nI (b + p) → fRl w0 w → xWp (d + 1) m_Md_readLine 176 [xA 7 2, xI (nI (b + n)), xI (nI l), xI x3] [] w Q := by
  have hin : vp_in (nI l) 8 := z_in (by omega) (by decide)
  have ecl : (nI l).toNatClampNeg = l := z_cl' (by omega)
  have full : ∀ T1 : xT, tn T1 = l + 1 → ¬ tm T1 l < 2 → ∀ v, ¬ fU v T1 := fun T1 h1 h2 v ⟨c, _, hc⟩ => by
    have := hc.2.2.1
    rw [h1, Nat.add_sub_cancel] at this
    exact h2 this
  intro m
  induction m with
  | zero =>
    intro p w T1 hp hM hR hW1 hn1 hT1 hat hf
    have e : p = n := by omega
    have hml := (hW1.2 l (by omega)).2.1
    obtain ⟨g1, g2, g3, g4⟩ := hT1 l (by omega)
    have hq := hok w T1 0 p hp (Nat.zero_le _) hR hW1 hn1 hT1 hat (Or.inl rfl) hf
    refine G_Md_readLine_176 ⟨hin, ?_⟩
    rw [ecl, g3, hat, z_le (show b + n < 2 ^ 31 by omega) (by omega)]
    exact ⟨fun _ => hq, fun _ => ⟨fun _ => hq, fun c => absurd (by omega) c⟩⟩
  | succ m ih =>
    intro p w T1 hp hM hR hW1 hn1 hT1 hat hf
    have hml := (hW1.2 l (by omega)).2.1
    obtain ⟨g1, g2, g3, g4⟩ := hT1 l (by omega)
    have hFp : w 69 (b + p) = F p := by rw [hf.1 69 (by decide) (by decide)]; exact hF p (by omega)
    have stuck : ¬ fU (F p - 48) T1 → Q (xI 1) w := fun q => hok w T1 (m + 1) p hp hM hR hW1 hn1 hT1 hat (Or.inr q) hf
    refine G_Md_readLine_176 ⟨hin, ?_⟩
    rw [ecl, g3, hat, z_cl' (show b + p < 2 ^ 31 by omega), hFp, show ((2 : Int32) ≤ nI (tm T1 l)) = (2 ≤ tm T1 l) from propext (z_le (a := 2) (by decide) (by omega)), z_le (show b + n < 2 ^ 31 by omega) (by omega)]
    refine ⟨fun c => stuck (full T1 hn1 (by omega) _), fun c => ⟨fun c2 => by omega, fun _ => ⟨z_in (by omega) (by decide), S_Md_canBeUsed hT1 hW1 hn1 (by omega) (fun hu => ?_) (fun hu => G_Md_readLine_211 ⟨fun _ => stuck hu, fun c => absurd rfl c⟩)⟩⟩⟩
    obtain ⟨cc, ec, hc⟩ := id hu
    have hc8 : cc < 8 := by
      have := tb_lt' hW1.1 (l := tn T1 - 1) (by omega) hc.2.1
      omega
    refine G_Md_readLine_211 ⟨fun c => absurd c n_10, fun _ => ?_⟩
    rw [ecl, g3, hat, z_2l, z_cl' (show 2 * l + tm T1 l < 2 ^ 31 by omega), z_cl' (show b + p < 2 ^ 31 by omega), hFp, ec]
    refine ⟨hin, z_in (by omega) (by decide), z_in (by omega) (by decide), fun w1 e1 => ⟨hin, hin, fun w2 e2 w3 e3 => ?_⟩⟩
    have k1 : w1 79 l = nI (tm T1 l) := by rw [e1, x_set_o (by decide)]; exact g3
    rw [k1, nI_1] at e2
    have k2 : w2 2 10 = nI (b + p) := by rw [e2, x_set_o (by decide), e1, x_set_o (by decide)]; exact hat
    rw [k2, nI_1] at e3
    have hT2 := mT_use (c := cc) hT1 hW1 hn1 (by omega) e1 e2
    refine ih (p + 1) w3 (tUse T1 cc) (by omega) (by omega) ?_ (tUse_W hW1 hc) hn1 (mT_fr hT2 (by rw [e3, x_set_o (by decide)]) (by rw [e3, x_set_o (by decide)]) (by rw [e3, x_set_o (by decide)]) (by rw [e3, x_set_o (by decide)])) (by rw [e3, x_set_s, upd_s]; rfl) (fRl_tr hf (fRl_tr (fRl_s (by decide) e1) (fRl_tr (fRl_s (by decide) e2) (fRl_2 e3))))
    rw [hR, a_go_s (a_use hW1.1 hu), ec, z_cl' (by omega)]
theorem wi48 {c : Int32} {l : Nat} (hl : l ≤ 8) : p_wi c 48 (47 + nI l) ↔ p_lt (c - 48) (nI l) := by
  have e47 : (47 + nI l).toInt = 47 + (l : Int) := by
    rw [show (47 : Int32) + nI l = nI (47 + l) from nI_add 47 l, nI_toInt (by omega)]; omega
  have e48 : (48 : Int32).toInt = 48 := rfl
  unfold p_wi p_lt
  rw [e47, e48, nI_toInt (show l < 2 ^ 31 by omega)]
  constructor
  · rintro ⟨h1, h2⟩
    obtain ⟨k, e1, e2, -⟩ := z_of (v := c) (by omega)
    rw [e1, show nI k - 48 = nI (k - 48) from pk_sub (b := 48) (by omega), nI_toInt (by omega)]
    omega
  · rintro ⟨h1, h2⟩
    obtain ⟨k, e1, e2, -⟩ := z_of (v := c - 48) h1
    have ec : c = nI (k + 48) := by
      have : c = c - 48 + 48 := (Int32.sub_add_cancel c 48).symm
      rw [this, e1]; exact nI_add k 48
    rw [ec, nI_toInt (by omega)]
    omega
theorem mT_put {w w' : xWd} {T : xT} {kd a : Nat} (hT : mT w T) (e7 : w' 77 = upd (w 77) (tn T) (nI kd)) (e8 : w' 78 = upd (w 78) (tn T) (nI a)) (e9 : w' 79 = upd (w 79) (tn T) 0) (e0 : w' 80 = w 80) : mT w' (tPut T kd a) := by
  intro l hl
  rw [tPut_n] at hl
  rw [e7, e8, e9, e0]
  by_cases e : l = tn T
  · subst e
    rw [upd_s, upd_s, upd_s, tPut_kn, tPut_an, tPut_mn]
    exact ⟨rfl, rfl, rfl, fun j hj => absurd hj (Nat.not_lt_zero _)⟩
  · have hl' : l < tn T := by omega
    obtain ⟨g1, g2, g3, g4⟩ := hT l hl'
    rw [upd_o e, upd_o e, upd_o e, tPut_k hl', ← tPut_a hl', tPut_m hl']
    exact ⟨g1, g2, g3, g4⟩
section RL
variable {d b n m p kd M : Nat} {T : xT} {F : Nat → Int32} {w0 : xWd} {Q : xMV → xWd → Prop} {R : Nat ⊕ xT}
/-- behind the line above: its uses -/
theorem K_169 {a k' : Nat} {w4 : xWd} {x3 : Int32} (hb : b + n ≤ 240) (hF : ∀ j, j < n → w0 69 (b + j) = F j) (hp : p + m = n) (hM : m ≤ M) (hW : tW T) (h8 : tn T < 8) (hT : mT w0 T) (hk : k' ≤ 2) (ha : (tn T = 0 ∧ a = 8) ∨ a < tn T) (hR : R = a_go F m p (4, k', tPut T k' a)) (e7 : w4 77 = upd (w0 77) (tn T) (nI k')) (e8 : w4 78 = upd (w0 78) (tn T) (nI a)) (e9 : w4 79 = w0 79) (e0 : w4 80 = w0 80) (hat : w4 2 10 = nI (b + p)) (hf : fRl w0 w4)
    (hok : ∀ (w' : xWd) (T' : xT) (m' p' : Nat), p' + m' = n → m' ≤ M → R = a_go F m' p' (4, k', T') → tW T' → tn T' = tn T + 1 → mT w' T' → w' 2 10 = nI (b + p') → (m' = 0 ∨ ¬ fU (F p' - 48) T') → fRl w0 w' → Q (xI 1) w') : xWp (d + 1) m_Md_readLine 169 [xA 7 2, xI (nI (b + n)), xI (nI (tn T)), xI x3] [] w4 Q := by
  refine G_Md_readLine_169 ⟨z_in (by omega) (by decide), fun w5 e5 => ?_⟩
  rw [z_cl' (by omega)] at e5
  have hf5 : fRl w0 w5 := fRl_tr hf (fRl_s (by decide) e5)
  refine L_Md_use (kd := k') (M := M) hb h8 hF hok m p w5 (tPut T k' a) hp hM hR (tPut_W hW h8 hk ha) tPut_n (mT_put hT ?_ ?_ ?_ ?_) ?_ hf5
  · rw [e5, x_set_o (by decide)]; exact e7
  · rw [e5, x_set_o (by decide)]; exact e8
  · rw [e5, x_set_s, e9]
  · rw [e5, x_set_o (by decide)]; exact e0
  · rw [e5, x_set_o (by decide)]; exact hat
/-- behind the kind: the line above -/
theorem K_60 {k' : Nat} {w1 : xWd} {x3 : Int32} (hb : b + n ≤ 240) (hF : ∀ j, j < n → w0 69 (b + j) = F j) (hp : p + 1 + m = n) (hM : m ≤ M) (hW : tW T) (h8 : tn T < 8) (hT : mT w0 T) (hk : k' ≤ 2) (hR : R = a_go F m (p + 1) (3, k', T)) (hat : w0 2 10 = nI (b + p)) (e1 : w1 = x_set w0 77 (tn T) (nI k'))
    (hok : ∀ (w' : xWd) (T' : xT) (m' p' : Nat), p' + m' = n → m' ≤ M → R = a_go F m' p' (4, k', T') → tW T' → tn T' = tn T + 1 → mT w' T' → w' 2 10 = nI (b + p') → (m' = 0 ∨ ¬ fU (F p' - 48) T') → fRl w0 w' → Q (xI 1) w')
    (hno : ∀ (w' : xWd) (p' : Nat), R = .inl p' → w' 2 10 = nI (b + p') → fRl w0 w' → Q (xI 0) w') : xWp (d + 1) m_Md_readLine 60 [xA 7 2, xI (nI (b + n)), xI (nI (tn T)), xI x3] [] w1 Q := by
  have hin : vp_in (nI (tn T)) 8 := z_in (by omega) (by decide)
  have ecl : (nI (tn T)).toNatClampNeg = tn T := z_cl' (by omega)
  have k7 : w1 77 (tn T) = nI k' := by rw [e1, x_set_s, upd_s]
  refine G_Md_readLine_60 ⟨hin, ?_⟩
  rw [ecl, k7]
  refine ⟨fun c => absurd c.symm (z_n9 (n := k') (by omega)), fun _ => G_Md_readLine_73 (fun w2 e2 => ?_)⟩
  have k10 : w1 2 10 = nI (b + p) := by rw [e1, x_set_o (by decide)]; exact hat
  rw [k10, nI_1] at e2
  have hf2 : fRl w0 w2 := fRl_tr (fRl_s (by decide) e1) (fRl_2 e2)
  have at2 : w2 2 10 = nI (b + (p + 1)) := by rw [e2, x_set_s, upd_s]; rfl
  have hF2 : ∀ j, j < n → w2 69 (b + j) = F j := fun j hj => by rw [hf2.1 69 (by decide) (by decide)]; exact hF j hj
  have a7 : w2 77 = upd (w0 77) (tn T) (nI k') := by rw [e2, x_set_o (by decide), e1, x_set_s]
  have a8 : w2 78 = w0 78 := by rw [e2, x_set_o (by decide), e1, x_set_o (by decide)]
  have a9 : w2 79 = w0 79 := by rw [e2, x_set_o (by decide), e1, x_set_o (by decide)]
  have a0 : w2 80 = w0 80 := by rw [e2, x_set_o (by decide), e1, x_set_o (by decide)]
  have fail : R = .inl (p + 1) → Q (xI 0) w2 := fun r => hno w2 (p + 1) r at2 hf2
  rw [z_eq0 (by omega)]
  refine ⟨fun t0 => ?_, fun t0 => ?_⟩
  · refine S_Md_isSign (F := F) hb (by omega) hF2 at2 (fun hlt hc w3 e3 => ?_) (fun hc => G_Md_readLine_94 ⟨fun _ => fail ?_, fun c => absurd rfl c⟩)
    · obtain ⟨m2, rfl⟩ : ∃ m2, m = m2 + 1 := ⟨m - 1, by omega⟩
      refine G_Md_readLine_94 ⟨fun c => absurd c n_10, fun _ w4 e4 => ?_⟩
      have hst : a_st (F (p + 1)) (3, k', T) = some (4, k', tPut T k' 8) := by rw [a_st3, if_pos t0, if_pos hc]
      rw [← t0] at e4
      refine K_169 (a := 8) (p := p + 1 + 1) (m := m2) hb hF (by omega) (by omega) hW h8 hT hk (Or.inl ⟨t0, rfl⟩) (by rw [hR, a_go_s hst]) ?_ ?_ ?_ ?_ ?_ ?_ hok
      · rw [e4, x_set_o (by decide), e3, x_set_o (by decide)]; exact a7
      · rw [e4, x_set_s, e3, x_set_o (by decide), a8]; rfl
      · rw [e4, x_set_o (by decide), e3, x_set_o (by decide)]; exact a9
      · rw [e4, x_set_o (by decide), e3, x_set_o (by decide)]; exact a0
      · rw [e4, x_set_o (by decide), e3, x_set_s, upd_s]; rfl
      · exact fRl_tr hf2 (fRl_tr (fRl_2 e3) (fRl_s (by decide) e4))
    · cases m with
      | zero => rw [hR]; rfl
      | succ m2 =>
        have hne : F (p + 1) ≠ 45 := by
          rcases hc with hc | hc
          · omega
          · exact hc
        rw [hR, a_go_n (by rw [a_st3, if_pos t0, if_neg hne])]
  · rw [at2, z_le (show b + n < 2 ^ 31 by omega) (by omega), z_cl' (show b + (p + 1) < 2 ^ 31 by omega)]
    refine ⟨fun c => fail ?_, fun c => ?_⟩
    · have : m = 0 := by omega
      subst this
      rw [hR]; rfl
    · obtain ⟨m2, rfl⟩ : ∃ m2, m = m2 + 1 := ⟨m - 1, by omega⟩
      rw [hF2 (p + 1) (by omega), wi48 (by omega)]
      refine ⟨z_in (by omega) (by decide), fun c2 => ⟨z_in (by omega) (by decide), hin, fun w3 e3 w4 e4 => ?_⟩, fun c2 => fail ?_⟩
      · obtain ⟨a, ea, ea2, -⟩ := z_of (v := F (p + 1) - 48) c2.1
        have ha : a < tn T := by
          have := c2.2
          rw [nI_toInt (by omega)] at this
          omega
        have hst : a_st (F (p + 1)) (3, k', T) = some (4, k', tPut T k' a) := by rw [a_st3, if_neg t0, if_pos c2, ea, z_cl' (by omega)]
        rw [ecl, ea] at e3
        have k4 : w3 2 10 = nI (b + (p + 1)) := by rw [e3, x_set_o (by decide)]; exact at2
        rw [k4, nI_1] at e4
        refine K_169 (a := a) (p := p + 1 + 1) (m := m2) hb hF (by omega) (by omega) hW h8 hT hk (Or.inr ha) (by rw [hR, a_go_s hst]) ?_ ?_ ?_ ?_ ?_ ?_ hok
        · rw [e4, x_set_o (by decide), e3, x_set_o (by decide)]; exact a7
        · rw [e4, x_set_o (by decide), e3, x_set_s, a8]
        · rw [e4, x_set_o (by decide), e3, x_set_o (by decide)]; exact a9
        · rw [e4, x_set_o (by decide), e3, x_set_o (by decide)]; exact a0
        · rw [e4, x_set_s, upd_s]; rfl
        · exact fRl_tr hf2 (fRl_tr (fRl_s (by decide) e3) (fRl_2 e4))
      · rw [hR, a_go_n (by rw [a_st3, if_neg t0, if_neg c2])]
theorem S_Md_readLine (hb : b + n ≤ 240) (hF : ∀ j, j < n → w0 69 (b + j) = F j) (hp : p + m = n) (hM : m ≤ M) (hW : tW T) (h8 : tn T < 8) (hT : mT w0 T) (hR : R = a_go F m p (2, kd, T)) (hat : w0 2 10 = nI (b + p))
    (hok : ∀ (w' : xWd) (T' : xT) (kd' m' p' : Nat), p' + m' = n → m' ≤ M → R = a_go F m' p' (4, kd', T') → tW T' → tn T' = tn T + 1 → mT w' T' → w' 2 10 = nI (b + p') → (m' = 0 ∨ ¬ fU (F p' - 48) T') → fRl w0 w' → Q (xI 1) w')
    (hno : ∀ (w' : xWd) (p' : Nat), R = .inl p' → w' 2 10 = nI (b + p') → fRl w0 w' → Q (xI 0) w') : xWp (d + 1) m_Md_readLine 0 [xA 7 2, xI (nI (b + n)), xI (nI (tn T)), xU] [] w0 Q := by
  have hin : vp_in (nI (tn T)) 8 := z_in (by omega) (by decide)
  have ecl : (nI (tn T)).toNatClampNeg = tn T := z_cl' (by omega)
  have bad : ∀ (x3 : Int32) (w1 : xWd), R = .inl p → w1 = x_set w0 77 (tn T) (-9) → xWp (d + 1) m_Md_readLine 60 [xA 7 2, xI (nI (b + n)), xI (nI (tn T)), xI x3] [] w1 Q := by
    intro x3 w1 r e1
    refine G_Md_readLine_60 ⟨hin, ?_⟩
    rw [ecl]
    refine ⟨fun _ => hno w1 p r ?_ (fRl_s (by decide) e1), fun c => absurd (by rw [e1, x_set_s, upd_s]) c⟩
    rw [e1, x_set_o (by decide)]; exact hat
  refine G_Md_readLine_0 ?_
  rw [hat, z_le (show b + n < 2 ^ 31 by omega) (by omega), z_cl' (show b + p < 2 ^ 31 by omega)]
  refine ⟨fun c => ?_, fun c => ⟨z_in (by omega) (by decide), ?_⟩⟩
  · have : m = 0 := by omega
    subst this
    refine G_Md_readLine_22 ?_
    rw [ecl]
    exact ⟨fun c => absurd c (by decide), fun _ => ⟨fun c => absurd c (by decide), fun _ => ⟨fun c => absurd c (by decide), fun _ => ⟨hin, fun w1 e1 => bad _ w1 (by rw [hR]; rfl) e1⟩⟩⟩⟩
  · obtain ⟨m1, rfl⟩ : ∃ m1, m = m1 + 1 := ⟨m - 1, by omega⟩
    rw [hF p (by omega)]
    have good : ∀ (k' : Nat) (w1 : xWd), k' ≤ 2 → a_st (F p) (2, kd, T) = some (3, k', T) → w1 = x_set w0 77 (tn T) (nI k') → xWp (d + 1) m_Md_readLine 60 [xA 7 2, xI (nI (b + n)), xI (nI (tn T)), xI (F p)] [] w1 Q := fun k' w1 hk hst e1 =>
      K_60 (p := p) (m := m1) (k' := k') hb hF (by omega) (by omega) hW h8 hT hk (by rw [hR, a_go_s hst]) hat e1 (fun w' T' m' p' => hok w' T' k' m' p') hno
    refine G_Md_readLine_22 ?_
    rw [ecl]
    refine ⟨fun e => ⟨hin, fun w1 e1 => good 0 w1 (by decide) ?_ e1⟩, fun n1 => ⟨fun e => ⟨hin, fun w1 e1 => good 1 w1 (by decide) ?_ e1⟩, fun n2 => ⟨fun e => ⟨hin, fun w1 e1 => good 2 w1 (by decide) ?_ e1⟩, fun n3 => ⟨hin, fun w1 e1 => bad _ w1 ?_ e1⟩⟩⟩⟩
    · rw [a_st2, e, if_neg (by decide), if_neg (by decide), if_pos rfl]
    · rw [a_st2, if_pos e]
    · rw [a_st2, if_neg n2, if_pos e]
    · rw [hR, a_go_n (by rw [a_st2, if_neg n2, if_neg n3, if_neg n1])]
end RL
/-! all lines -/
def fRd (w w' : xWd) : Prop := (∀ a, a ≠ 2 → (a < 77 ∨ 80 < a) → w' a = w a) ∧ ∀ j, j ≠ 10 → j ≠ 11 → w' 2 j = w 2 j
theorem fRd_rl {w w1 w2 : xWd} (h : fRd w w1) (h2 : fRl w1 w2) : fRd w w2 := ⟨fun a a1 a2 => (h2.1 a a1 a2).trans (h.1 a a1 a2), fun j j1 j2 => (h2.2 j j1).trans (h.2 j j1 j2)⟩
theorem G_Md_readAll_0 {d : Nat} {x1 : Int32} {w : xWd} {Q : xMV → xWd → Prop} (h : (∀ w1 : xWd, w1 = x_set w 2 11 0 → xWp (d + 1) m_Md_isSign 0 [xA 7 2, xI x1, xI 114] [] w1 (fun a w' => xWp (d + 2) m_Md_readAll 12 [xA 7 2, xI x1] (x_pu a []) w' Q))) : xWp (d + 2) m_Md_readAll 0 [xA 7 2, xI x1] [] w Q := by
  refine x_goN 2 (pc' := 2) (ls' := [xA 7 2, xI x1]) (st' := [xI 0, xA 7 2]) (w' := w) rfl ?_
  refine x_goW (pc' := 5) (ls' := [xA 7 2, xI x1]) (st' := []) (w' := x_set w 2 11 0) rfl (fun w1 ew1 => ?_)
  refine x_goN 3 (pc' := 9) (ls' := [xA 7 2, xI x1]) (st' := [xI 114, xI x1, xA 7 2]) (w' := w1) rfl ?_
  refine x_call (y := m_Md_isSign) (as := [xA 7 2, xI x1, xI 114]) (rst := []) rfl [xA 7 2, xI x1, xI 114] rfl ?_
  exact (h w1 ew1)
theorem G_Md_readAll_12 {d : Nat} {x1 : Int32} {s0 : Int32} {w : xWd} {Q : xMV → xWd → Prop} (h : ((s0 = 0 → Q (xI 0) w) ∧ (¬ (s0 = 0) → xWp (d + 2) m_Md_readAll 17 [xA 7 2, xI x1] [] w Q))) : xWp (d + 2) m_Md_readAll 12 [xA 7 2, xI x1] [xI s0] w Q := by
  refine x_goN 1 (pc' := if s0 = 0 then 15 else 17) (ls' := [xA 7 2, xI x1]) (st' := []) (w' := w) rfl ?_
  refine x_br (fun c1 => ?_) (fun c1 => ?_)
  · skip
    refine x_goN 1 (pc' := 16) (ls' := [xA 7 2, xI x1]) (st' := [xI 0]) (w' := w) rfl ?_
    exact x_ret (P := (0 : Int32) = 0 ∨ (0 : Int32) = 1) rfl (by decide) (h.1 c1)
  · skip
    exact (h.2 c1)
theorem G_Md_readAll_17 {d : Nat} {x1 : Int32} {w : xWd} {Q : xMV → xWd → Prop} (h : ((w 2 11 = 0 → xWp (d + 1) m_Md_isSign 0 [xA 7 2, xI x1, xI 59] [] w (fun a w' => xWp (d + 2) m_Md_readAll 48 [xA 7 2, xI x1] (x_pu a []) w' Q)) ∧ (¬ (w 2 11 = 0) → ((8 ≤ w 2 11 → ((w 2 10 = x1 → Q (xI 1) w) ∧ (¬ (w 2 10 = x1) → Q (xI 0) w))) ∧ (¬ (8 ≤ w 2 11) → ((x1 ≤ w 2 10 → ((w 2 10 = x1 → Q (xI 1) w) ∧ (¬ (w 2 10 = x1) → Q (xI 0) w))) ∧ (¬ (x1 ≤ w 2 10) → xWp (d + 1) m_Md_isSign 0 [xA 7 2, xI x1, xI 59] [] w (fun a w' => xWp (d + 2) m_Md_readAll 48 [xA 7 2, xI x1] (x_pu a []) w' Q)))))))) : xWp (d + 2) m_Md_readAll 17 [xA 7 2, xI x1] [] w Q := by
  refine x_goN 3 (pc' := if w 2 11 = 0 then 41 else 24) (ls' := [xA 7 2, xI x1]) (st' := []) (w' := w) rfl ?_
  refine x_br (fun c1 => ?_) (fun c1 => ?_)
  · skip
    refine x_goN 3 (pc' := 45) (ls' := [xA 7 2, xI x1]) (st' := [xI 59, xI x1, xA 7 2]) (w' := w) rfl ?_
    refine x_call (y := m_Md_isSign) (as := [xA 7 2, xI x1, xI 59]) (rst := []) rfl [xA 7 2, xI x1, xI 59] rfl ?_
    exact (h.1 c1)
  · skip
    refine x_goN 4 (pc' := if 8 ≤ w 2 11 then 78 else 33) (ls' := [xA 7 2, xI x1]) (st' := []) (w' := w) rfl ?_
    refine x_br (fun c2 => ?_) (fun c2 => ?_)
    · skip
      refine x_goN 4 (pc' := if w 2 10 = x1 then 86 else 90) (ls' := [xA 7 2, xI x1]) (st' := []) (w' := w) rfl ?_
      refine x_br (fun c3 => ?_) (fun c3 => ?_)
      · skip
        refine x_goN 2 (pc' := 91) (ls' := [xA 7 2, xI x1]) (st' := [xI 1]) (w' := w) rfl ?_
        exact x_ret (P := (1 : Int32) = 0 ∨ (1 : Int32) = 1) rfl (by decide) (((h.2 c1).1 c2).1 c3)
      · skip
        refine x_goN 1 (pc' := 91) (ls' := [xA 7 2, xI x1]) (st' := [xI 0]) (w' := w) rfl ?_
        exact x_ret (P := (0 : Int32) = 0 ∨ (0 : Int32) = 1) rfl (by decide) (((h.2 c1).1 c2).2 c3)
    · skip
      refine x_goN 4 (pc' := if x1 ≤ w 2 10 then 78 else 41) (ls' := [xA 7 2, xI x1]) (st' := []) (w' := w) rfl ?_
      refine x_br (fun c4 => ?_) (fun c4 => ?_)
      · skip
        refine x_goN 4 (pc' := if w 2 10 = x1 then 86 else 90) (ls' := [xA 7 2, xI x1]) (st' := []) (w' := w) rfl ?_
        refine x_br (fun c5 => ?_) (fun c5 => ?_)
        · skip
          refine x_goN 2 (pc' := 91) (ls' := [xA 7 2, xI x1]) (st' := [xI 1]) (w' := w) rfl ?_
          exact x_ret (P := (1 : Int32) = 0 ∨ (1 : Int32) = 1) rfl (by decide) ((((h.2 c1).2 c2).1 c4).1 c5)
        · skip
          refine x_goN 1 (pc' := 91) (ls' := [xA 7 2, xI x1]) (st' := [xI 0]) (w' := w) rfl ?_
          exact x_ret (P := (0 : Int32) = 0 ∨ (0 : Int32) = 1) rfl (by decide) ((((h.2 c1).2 c2).1 c4).2 c5)
      · skip
        refine x_goN 3 (pc' := 45) (ls' := [xA 7 2, xI x1]) (st' := [xI 59, xI x1, xA 7 2]) (w' := w) rfl ?_
        refine x_call (y := m_Md_isSign) (as := [xA 7 2, xI x1, xI 59]) (rst := []) rfl [xA 7 2, xI x1, xI 59] rfl ?_
        exact (((h.2 c1).2 c2).2 c4)
theorem G_Md_readAll_48 {d : Nat} {x1 : Int32} {s0 : Int32} {w : xWd} {Q : xMV → xWd → Prop} (h : ((s0 = 0 → Q (xI 0) w) ∧ (¬ (s0 = 0) → xWp (d + 1) m_Md_readLine 0 [xA 7 2, xI x1, xI (w 2 11), xU] [] w (fun a w' => xWp (d + 2) m_Md_readAll 60 [xA 7 2, xI x1] (x_pu a []) w' Q)))) : xWp (d + 2) m_Md_readAll 48 [xA 7 2, xI x1] [xI s0] w Q := by
  refine x_goN 1 (pc' := if s0 = 0 then 63 else 51) (ls' := [xA 7 2, xI x1]) (st' := []) (w' := w) rfl ?_
  refine x_br (fun c1 => ?_) (fun c1 => ?_)
  · skip
    refine x_goN 1 (pc' := 64) (ls' := [xA 7 2, xI x1]) (st' := [xI 0]) (w' := w) rfl ?_
    exact x_ret (P := (0 : Int32) = 0 ∨ (0 : Int32) = 1) rfl (by decide) (h.1 c1)
  · skip
    refine x_goN 4 (pc' := 57) (ls' := [xA 7 2, xI x1]) (st' := [xI (w 2 11), xI x1, xA 7 2]) (w' := w) rfl ?_
    refine x_call (y := m_Md_readLine) (as := [xA 7 2, xI x1, xI (w 2 11)]) (rst := []) rfl [xA 7 2, xI x1, xI (w 2 11), xU] rfl ?_
    exact (h.2 c1)
theorem G_Md_readAll_60 {d : Nat} {x1 : Int32} {s0 : Int32} {w : xWd} {Q : xMV → xWd → Prop} (h : ((s0 = 0 → Q (xI 0) w) ∧ (¬ (s0 = 0) → (∀ w1 : xWd, w1 = x_set w 2 11 ((w 2 11) + 1) → xWp (d + 2) m_Md_readAll 17 [xA 7 2, xI x1] [] w1 Q)))) : xWp (d + 2) m_Md_readAll 60 [xA 7 2, xI x1] [xI s0] w Q := by
  refine x_goN 1 (pc' := if s0 = 0 then 63 else 65) (ls' := [xA 7 2, xI x1]) (st' := []) (w' := w) rfl ?_
  refine x_br (fun c1 => ?_) (fun c1 => ?_)
  · skip
    refine x_goN 1 (pc' := 64) (ls' := [xA 7 2, xI x1]) (st' := [xI 0]) (w' := w) rfl ?_
    exact x_ret (P := (0 : Int32) = 0 ∨ (0 : Int32) = 1) rfl (by decide) (h.1 c1)
  · skip
    refine x_goN 5 (pc' := 72) (ls' := [xA 7 2, xI x1]) (st' := [xI ((w 2 11) + 1), xA 7 2]) (w' := w) rfl ?_
    refine x_goW (pc' := 75) (ls' := [xA 7 2, xI x1]) (st' := []) (w' := x_set w 2 11 ((w 2 11) + 1)) rfl (fun w1 ew1 => ?_)
    refine x_goN 1 (pc' := 17) (ls' := [xA 7 2, xI x1]) (st' := []) (w' := w1) rfl ?_
    exact ((h.2 c1) w1 ew1)
theorem L_Md_readAll {d b n : Nat} {F : Nat → Int32} {w0 : xWd} {Q : xMV → xWd → Prop} {R : Nat ⊕ xT} (hb : b + n ≤ 240) (hF : ∀ j, j < n → w0 69 (b + j) = F j) (hok : ∀ (w' : xWd) (T' : xT), R = .inr T' → tW T' → mT w' T' → w' 2 11 = nI (tn T') → fRd w0 w' → Q (xI 1) w') (hno : ∀ (w' : xWd) (p' : Nat), R = .inl p' → w' 2 10 = nI (b + p') → fRd w0 w' → Q (xI 0) w') : ∀ (f m p kd : Nat) (w : xWd) (T : xT), m < f → p + m = n → tW T → mT w T → w 2 10 = nI (b + p) → w 2 11 = nI (tn T) → fRd w0 w → ((tn T = 0 ∧ R = a_go F m p (1, kd, T)) ∨ (0 < tn T ∧ R = a_go F m p (4, kd, T) ∧ (m = 0 ∨ ¬ fU (F p - 48) T))) → xWp (d + 2) m_Md_readAll 17 [xA 7 2, xI (nI (b + n))] [] w Q := by
  intro f
  induction f with
  | zero => intro m p kd w T hf; omega
  | succ f ih =>
    intro m p kd w T hmf hp hW hT hat h11 hf hst
    have h8 := hW.1.1
    have hF' : ∀ j, j < n → w 69 (b + j) = F j := fun j hj => by rw [hf.1 69 (by decide) (by decide)]; exact hF j hj
    have sign : tn T < 8 → (p = n → R = .inl p) → (∀ m1, m = m1 + 1 → (F p = 59 → R = a_go F m1 (p + 1) (2, kd, T)) ∧ (F p ≠ 59 → R = .inl p)) → xWp (d + 1) m_Md_isSign 0 [xA 7 2, xI (nI (b + n)), xI 59] [] w (fun a w' => xWp (d + 2) m_Md_readAll 48 [xA 7 2, xI (nI (b + n))] (x_pu a []) w' Q) := by
      intro t8 hend hgo
      refine S_Md_isSign (F := F) hb (by omega) hF' hat (fun hlt hc w1 e1 => ?_) (fun hc => G_Md_readAll_48 ⟨fun _ => hno w p ?_ hat hf, fun c => absurd rfl c⟩)
      · obtain ⟨m1, rfl⟩ : ∃ m1, m = m1 + 1 := ⟨m - 1, by omega⟩
        have hR1 := (hgo m1 rfl).1 hc
        have f1 := fRl_2 e1
        have k11 : w1 2 11 = nI (tn T) := by rw [f1.2 11 (by decide)]; exact h11
        refine G_Md_readAll_48 ⟨fun c => absurd c n_10, fun _ => ?_⟩
        rw [k11]
        refine S_Md_readLine (M := m1) (p := p + 1) (m := m1) (kd := kd) (R := R) hb (fun j hj => by rw [f1.1 69 (by decide) (by decide)]; exact hF' j hj) (by omega) (Nat.le_refl _) hW t8 (mT_fr hT (by rw [e1, x_set_o (by decide)]) (by rw [e1, x_set_o (by decide)]) (by rw [e1, x_set_o (by decide)]) (by rw [e1, x_set_o (by decide)])) hR1 (by rw [e1, x_set_s, upd_s]; rfl) (fun w2 T2 kd2 m2 p2 q1 q2 q3 q4 q5 q6 q7 q8 q9 => ?_) (fun w2 p2 q1 q2 q3 => G_Md_readAll_60 ⟨fun _ => hno w2 p2 q1 q2 (fRd_rl (fRd_rl hf f1) q3), fun c => absurd rfl c⟩)
        refine G_Md_readAll_60 ⟨fun c => absurd c n_10, fun _ w3 e3 => ?_⟩
        have k3 : w2 2 11 = nI (tn T) := by rw [q9.2 11 (by decide)]; exact k11
        rw [k3, nI_1] at e3
        have hf2 := fRd_rl (fRd_rl hf f1) q9
        refine ih m2 p2 kd2 w3 T2 (by omega) q1 q4 (mT_fr q6 (by rw [e3, x_set_o (by decide)]) (by rw [e3, x_set_o (by decide)]) (by rw [e3, x_set_o (by decide)]) (by rw [e3, x_set_o (by decide)])) (by rw [e3, x_set_s, upd_o (by decide)]; exact q7) (by rw [e3, x_set_s, upd_s, q5]) ⟨fun a a1 a2 => by rw [e3, x_set_o a1]; exact hf2.1 a a1 a2, fun j j1 j2 => by rw [e3, x_set_s, upd_o j2]; exact hf2.2 j j1 j2⟩ (Or.inr ⟨by omega, q3, q8⟩)
      · rcases hc with hc | hc
        · exact hend hc
        · cases m with
          | zero => exact hend (by omega)
          | succ m1 => exact (hgo m1 rfl).2 hc
    refine G_Md_readAll_17 ?_
    rw [h11, z_eq0 (by omega), show ((8 : Int32) ≤ nI (tn T)) = (8 ≤ tn T) from propext (z_le (a := 8) (by decide) (by omega)), hat, z_le (show b + n < 2 ^ 31 by omega) (by omega), z_eq (by omega) (by omega)]
    rcases hst with ⟨t0, hR⟩ | ⟨t0, hR, hstuck⟩
    · refine ⟨fun _ => sign (by omega) (fun e => ?_) (fun m1 em => ⟨fun e => ?_, fun e => ?_⟩), fun c => absurd t0 c⟩
      · have : m = 0 := by omega
        subst this
        rw [hR]; rfl
      · subst em
        rw [hR, a_go_s (by rw [a_st1, if_pos e])]
      · subst em
        rw [hR, a_go_n (by rw [a_st1, if_neg e])]
    · have fin : (m = 0 → Q (xI 1) w) ∧ (m ≠ 0 → 8 ≤ tn T → Q (xI 0) w) := by
        refine ⟨fun e => ?_, fun e t8 => ?_⟩
        · subst e
          exact hok w T (by rw [hR]; rfl) hW hT h11 hf
        · obtain ⟨m1, rfl⟩ : ∃ m1, m = m1 + 1 := ⟨m - 1, by omega⟩
          refine hno w p ?_ hat hf
          rw [hR]
          by_cases e59 : F p = 59
          · exact a_go_n (by rw [a_st4, if_pos e59, if_pos t8])
          · exact a_go_n (a_no4 e59 (hstuck.resolve_left (by omega)))
      refine ⟨fun c => by omega, fun _ => ⟨fun t8 => ⟨fun c => fin.1 (by omega), fun c => fin.2 (by omega) t8⟩, fun t8 => ⟨fun c => ⟨fun _ => fin.1 (by omega), fun c2 => absurd (by omega) c2⟩, fun c => sign (by omega) (fun e => by omega) (fun m1 em => ⟨fun e => ?_, fun e => ?_⟩)⟩⟩⟩
      · subst em
        rw [hR, a_go_s (by rw [a_st4, if_pos e, if_neg t8])]
      · subst em
        rw [hR]
        exact a_go_n (a_no4 e (hstuck.resolve_left (by omega)))
theorem S_Md_readAll {d b n : Nat} {F : Nat → Int32} {w0 : xWd} {Q : xMV → xWd → Prop} (hb : b + n ≤ 240) (hF : ∀ j, j < n → w0 69 (b + j) = F j) (hat : w0 2 10 = nI b) (hok : ∀ (w' : xWd) (T' : xT), a_go F n 0 (0, 0, tE) = .inr T' → tW T' → mT w' T' → w' 2 11 = nI (tn T') → fRd w0 w' → Q (xI 1) w') (hno : ∀ (w' : xWd) (p' : Nat), a_go F n 0 (0, 0, tE) = .inl p' → w' 2 10 = nI (b + p') → fRd w0 w' → Q (xI 0) w') : xWp (d + 2) m_Md_readAll 0 [xA 7 2, xI (nI (b + n))] [] w0 Q := by
  refine G_Md_readAll_0 (fun w1 e1 => ?_)
  have f1 : fRd w0 w1 := ⟨fun a a1 _ => by rw [e1, x_set_o a1], fun j _ j2 => by rw [e1, x_set_s, upd_o j2]⟩
  have at1 : w1 2 10 = nI (b + 0) := by rw [e1, x_set_s, upd_o (by decide)]; exact hat
  refine S_Md_isSign (F := F) hb (Nat.zero_le _) (fun j hj => by rw [f1.1 69 (by decide) (by decide)]; exact hF j hj) at1 (fun hlt hc w2 e2 => ?_) (fun hc => G_Md_readAll_12 ⟨fun _ => hno w1 0 ?_ at1 f1, fun c => absurd rfl c⟩)
  · obtain ⟨m1, rfl⟩ : ∃ m1, n = m1 + 1 := ⟨n - 1, by omega⟩
    refine G_Md_readAll_12 ⟨fun c => absurd c n_10, fun _ => ?_⟩
    refine L_Md_readAll (R := a_go F (m1 + 1) 0 (0, 0, tE)) hb hF hok hno (m1 + 1) m1 1 0 w2 tE (by omega) (by omega) tE_W (fun l hl => absurd hl (Nat.not_lt_zero _)) (by rw [e2, x_set_s, upd_s]) ?_ (fRd_rl f1 (fRl_2 e2)) (Or.inl ⟨rfl, ?_⟩)
    · rw [e2, x_set_s, upd_o (by decide), e1, x_set_s, upd_s]; rfl
    · rw [a_go_s (by rw [a_st0, if_pos hc])]
  · cases n with
    | zero => rfl
    | succ m1 =>
      rcases hc with hc | hc
      · omega
      · exact a_go_n (by rw [a_st0, if_neg hc])

