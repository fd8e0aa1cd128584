/-! KINDS, FIRSTS: readings held against trees that might be -/
def bAs (s : xS) (T : xT) : Bool := !(z_any (r_n s) (fun q => !(decide (tCo T (r_v s q) = r_c s q))))
theorem bAs_iff {s : xS} {T : xT} : bAs s T = true ↔ ∀ q, q < r_n s → tCo T (r_v s q) = r_c s q := by
  unfold bAs
  rw [Bool.not_eq_true', Bool.eq_false_iff]
  constructor
  · intro h q hq
    apply Classical.byContradiction
    intro hne
    exact h ((z_any_iff _ _).mpr ⟨q, hq, by rw [decide_eq_false hne]; rfl⟩)
  · intro h hq
    obtain ⟨q, hq, hp⟩ := (z_any_iff _ _).mp hq
    rw [decide_eq_true (h q hq)] at hp
    cases hp
theorem tCo_le (T : xT) (v : Nat) : tCo T v ≤ 16 := by
  have := z_pc_le (mUs T v)
  unfold tCo
  split
  · omega
  · split <;> omega
def rIn (s : xS) (T : xT) : Prop := r_n s ≤ 8 ∧ ∀ q, q < r_n s → r_v s q < tn T ∧ r_c s q ≤ 20
theorem G_Rd_areSo_0 {d : Nat} {a1 : Nat} {w : xWd} {Q : xMV → xWd → Prop} (h : xWp (d + 4) m_Rd_areSo 2 [xA 2 39, xA 5 a1, xI 0] [] w Q) : xWp (d + 4) m_Rd_areSo 0 [xA 2 39, xA 5 a1, xU] [] w Q := by
  refine x_goN 2 (pc' := 2) (ls' := [xA 2 39, xA 5 a1, xI 0]) (st' := []) (w' := w) rfl ?_
  exact h
theorem G_Rd_areSo_2 {d : Nat} {a1 : Nat} {x2 : Int32} {w : xWd} {Q : xMV → xWd → Prop} (h : ((w 39 2 ≤ x2 → Q (xI 1) w) ∧ (¬ (w 39 2 ≤ x2) → (vp_in x2 8 ∧ xWp (d + 3) m_Tr_cost 0 [xA 5 a1, xI (w 1249 x2.toNatClampNeg), xU] [] w (fun a w' => xWp (d + 4) m_Rd_areSo 20 [xA 2 39, xA 5 a1, xI x2] (x_pu a []) w' Q))))) : xWp (d + 4) m_Rd_areSo 2 [xA 2 39, xA 5 a1, xI x2] [] w Q := by
  refine x_goN 4 (pc' := if w 39 2 ≤ x2 then 37 else 10) (ls' := [xA 2 39, xA 5 a1, xI x2]) (st' := []) (w' := w) rfl ?_
  refine x_br (fun c1 => ?_) (fun c1 => ?_)
  · skip
    refine x_goN 1 (pc' := 38) (ls' := [xA 2 39, xA 5 a1, xI x2]) (st' := [xI 1]) (w' := w) rfl ?_
    exact x_ret (P := (1 : Int32) = 0 ∨ (1 : Int32) = 1) rfl (by decide) (h.1 c1)
  · skip
    refine x_goN 4 (pc' := 16) (ls' := [xA 2 39, xA 5 a1, xI x2]) (st' := [xI x2, xA 108 1249, xA 5 a1]) (w' := w) rfl ?_
    refine x_ob (P := vp_in x2 8) (pc' := 17) (ls' := [xA 2 39, xA 5 a1, xI x2]) (st' := [xI (w 1249 x2.toNatClampNeg), xA 5 a1]) (w' := w) rfl (h.2 c1).1 ?_
    refine x_call (y := m_Tr_cost) (as := [xA 5 a1, xI (w 1249 x2.toNatClampNeg)]) (rst := []) rfl [xA 5 a1, xI (w 1249 x2.toNatClampNeg), xU] rfl ?_
    exact (h.2 c1).2
theorem G_Rd_areSo_20 {d : Nat} {a1 : Nat} {x2 : Int32} {s0 : Int32} {w : xWd} {Q : xMV → xWd → Prop} (h : (vp_in x2 8 ∧ ((s0 = w 1250 x2.toNatClampNeg → xWp (d + 4) m_Rd_areSo 2 [xA 2 39, xA 5 a1, xI (x2 + 1)] [] w Q) ∧ (¬ (s0 = w 1250 x2.toNatClampNeg) → Q (xI 0) w)))) : xWp (d + 4) m_Rd_areSo 20 [xA 2 39, xA 5 a1, xI x2] [xI s0] w Q := by
  refine x_goN 3 (pc' := 25) (ls' := [xA 2 39, xA 5 a1, xI x2]) (st' := [xI x2, xA 108 1250, xI s0]) (w' := w) rfl ?_
  refine x_ob (P := vp_in x2 8) (pc' := 26) (ls' := [xA 2 39, xA 5 a1, xI x2]) (st' := [xI (w 1250 x2.toNatClampNeg), xI s0]) (w' := w) rfl h.1 ?_
  refine x_goN 1 (pc' := if s0 = w 1250 x2.toNatClampNeg then 31 else 29) (ls' := [xA 2 39, xA 5 a1, xI x2]) (st' := []) (w' := w) rfl ?_
  refine x_br (fun c1 => ?_) (fun c1 => ?_)
  · skip
    refine x_goN 2 (pc' := 2) (ls' := [xA 2 39, xA 5 a1, xI (x2 + 1)]) (st' := []) (w' := w) rfl ?_
    exact (h.2.1 c1)
  · skip
    refine x_goN 1 (pc' := 30) (ls' := [xA 2 39, xA 5 a1, xI x2]) (st' := [xI 0]) (w' := w) rfl ?_
    exact x_ret (P := (0 : Int32) = 0 ∨ (0 : Int32) = 1) rfl (by decide) (h.2.2 c1)
theorem L_Rd_areSo {d t : Nat} {s : xS} {T : xT} {w : xWd} {Q : xMV → xWd → Prop} (hR : tR w t T) (hr : cRd s w) (hi : rIn s T) (h1 : bAs s T = true → Q (xI 1) w) (h2 : ¬ bAs s T = true → Q (xI 0) w) : ∀ k q : Nat, q + k = r_n s → (∀ j, j < q → tCo T (r_v s j) = r_c s j) → xWp (d + 4) m_Rd_areSo 2 [xA 2 39, xA 5 t, xI (nI q)] [] w Q := by
  have hn8 := hi.1
  intro k
  induction k with
  | zero =>
    intro q hq hb
    have e : q = r_n s := by omega
    subst e
    refine G_Rd_areSo_2 ?_
    rw [hr.1]
    exact ⟨fun _ => h1 (bAs_iff.mpr hb), fun c => absurd ((z_le (by omega) (by omega)).mpr (Nat.le_refl _)) c⟩
  | succ k ih =>
    intro q hq hb
    have hlt : q < r_n s := by omega
    obtain ⟨i1, i2⟩ := hi.2 q hlt
    obtain ⟨r1, r2⟩ := hr.2 q hlt
    have hco := tCo_le T (r_v s q)
    refine G_Rd_areSo_2 ?_
    rw [hr.1, z_cl' (show q < 2 ^ 31 by omega), r1]
    refine ⟨fun c => absurd ((z_le (by omega) (by omega)).mp c) (by omega), fun _ => ⟨z_in (by omega) (by decide), S_Tr_cost hR i1 ?_⟩⟩
    refine G_Rd_areSo_20 ?_
    rw [z_cl' (show q < 2 ^ 31 by omega), r2, nI_1]
    refine ⟨z_in (by omega) (by decide), fun c => ih (q + 1) (by omega) (fun j hj => ?_), fun c => h2 (fun hh => c ?_)⟩
    · by_cases e : j = q
      · subst e; exact (z_eq (by omega) (by omega)).mp c
      · exact hb j (by omega)
    · rw [bAs_iff.mp hh q hlt]
theorem S_Rd_areSo {d t : Nat} {s : xS} {T : xT} {w : xWd} {Q : xMV → xWd → Prop} (hR : tR w t T) (hr : cRd s w) (hi : rIn s T) (h1 : bAs s T = true → Q (xI 1) w) (h2 : ¬ bAs s T = true → Q (xI 0) w) : xWp (d + 4) m_Rd_areSo 0 [xA 2 39, xA 5 t, xU] [] w Q :=
  G_Rd_areSo_0 (L_Rd_areSo hR hr hi h1 h2 (r_n s) 0 (Nat.zero_add _) (fun j hj => absurd hj (Nat.not_lt_zero _)))
theorem G_Md_areSo_0 {d : Nat} {w : xWd} {Q : xMV → xWd → Prop} (h : xWp (d + 3) m_Md_areSo 2 [xA 7 2, xI 0] [] w Q) : xWp (d + 3) m_Md_areSo 0 [xA 7 2, xU] [] w Q := by
  refine x_goN 2 (pc' := 2) (ls' := [xA 7 2, xI 0]) (st' := []) (w' := w) rfl ?_
  exact h
theorem G_Md_areSo_2 {d : Nat} {x1 : Int32} {w : xWd} {Q : xMV → xWd → Prop} (h : ((w 2 26 ≤ x1 → Q (xI 1) w) ∧ (¬ (w 2 26 ≤ x1) → (vp_in x1 8 ∧ xWp (d + 2) m_Md_costOf 0 [xA 7 2, xI (w 92 x1.toNatClampNeg), xU] [] w (fun a w' => xWp (d + 3) m_Md_areSo 20 [xA 7 2, xI x1] (x_pu a []) w' Q))))) : xWp (d + 3) m_Md_areSo 2 [xA 7 2, xI x1] [] w Q := by
  refine x_goN 4 (pc' := if w 2 26 ≤ x1 then 37 else 10) (ls' := [xA 7 2, xI x1]) (st' := []) (w' := w) rfl ?_
  refine x_br (fun c1 => ?_) (fun c1 => ?_)
  · skip
    refine x_goN 1 (pc' := 38) (ls' := [xA 7 2, xI x1]) (st' := [xI 1]) (w' := w) rfl ?_
    exact x_ret (P := (1 : Int32) = 0 ∨ (1 : Int32) = 1) rfl (by decide) (h.1 c1)
  · skip
    refine x_goN 4 (pc' := 16) (ls' := [xA 7 2, xI x1]) (st' := [xI x1, xA 108 92, xA 7 2]) (w' := w) rfl ?_
    refine x_ob (P := vp_in x1 8) (pc' := 17) (ls' := [xA 7 2, xI x1]) (st' := [xI (w 92 x1.toNatClampNeg), xA 7 2]) (w' := w) rfl (h.2 c1).1 ?_
    refine x_call (y := m_Md_costOf) (as := [xA 7 2, xI (w 92 x1.toNatClampNeg)]) (rst := []) rfl [xA 7 2, xI (w 92 x1.toNatClampNeg), xU] rfl ?_
    exact (h.2 c1).2
theorem G_Md_areSo_20 {d : Nat} {x1 : Int32} {s0 : Int32} {w : xWd} {Q : xMV → xWd → Prop} (h : (vp_in x1 8 ∧ ((s0 = w 93 x1.toNatClampNeg → xWp (d + 3) m_Md_areSo 2 [xA 7 2, xI (x1 + 1)] [] w Q) ∧ (¬ (s0 = w 93 x1.toNatClampNeg) → Q (xI 0) w)))) : xWp (d + 3) m_Md_areSo 20 [xA 7 2, xI x1] [xI s0] w Q := by
  refine x_goN 3 (pc' := 25) (ls' := [xA 7 2, xI x1]) (st' := [xI x1, xA 108 93, xI s0]) (w' := w) rfl ?_
  refine x_ob (P := vp_in x1 8) (pc' := 26) (ls' := [xA 7 2, xI x1]) (st' := [xI (w 93 x1.toNatClampNeg), xI s0]) (w' := w) rfl h.1 ?_
  refine x_goN 1 (pc' := if s0 = w 93 x1.toNatClampNeg then 31 else 29) (ls' := [xA 7 2, xI x1]) (st' := []) (w' := w) rfl ?_
  refine x_br (fun c1 => ?_) (fun c1 => ?_)
  · skip
    refine x_goN 2 (pc' := 2) (ls' := [xA 7 2, xI (x1 + 1)]) (st' := []) (w' := w) rfl ?_
    exact (h.2.1 c1)
  · skip
    refine x_goN 1 (pc' := 30) (ls' := [xA 7 2, xI x1]) (st' := [xI 0]) (w' := w) rfl ?_
    exact x_ret (P := (0 : Int32) = 0 ∨ (0 : Int32) = 1) rfl (by decide) (h.2.2 c1)
theorem L_Md_areSo {d : Nat} {s : xS} {T : xT} {w : xWd} {Q : xMV → xWd → Prop} (hS : tS w T) (hr : mRd s w) (hi : rIn s T) (h1 : bAs s T = true → Q (xI 1) w) (h2 : ¬ bAs s T = true → Q (xI 0) w) : ∀ k q : Nat, q + k = r_n s → (∀ j, j < q → tCo T (r_v s j) = r_c s j) → xWp (d + 3) m_Md_areSo 2 [xA 7 2, xI (nI q)] [] w Q := by
  have hn8 := hi.1
  intro k
  induction k with
  | zero =>
    intro q hq hb
    have e : q = r_n s := by omega
    subst e
    refine G_Md_areSo_2 ?_
    rw [hr.1]
    exact ⟨fun _ => h1 (bAs_iff.mpr hb), fun c => absurd ((z_le (by omega) (by omega)).mpr (Nat.le_refl _)) c⟩
  | succ k ih =>
    intro q hq hb
    have hlt : q < r_n s := by omega
    obtain ⟨i1, i2⟩ := hi.2 q hlt
    obtain ⟨r1, r2⟩ := hr.2 q hlt
    have hco := tCo_le T (r_v s q)
    refine G_Md_areSo_2 ?_
    rw [hr.1, z_cl' (show q < 2 ^ 31 by omega), r1]
    refine ⟨fun c => absurd ((z_le (by omega) (by omega)).mp c) (by omega), fun _ => ⟨z_in (by omega) (by decide), S_Md_costOf hS i1 ?_⟩⟩
    refine G_Md_areSo_20 ?_
    rw [z_cl' (show q < 2 ^ 31 by omega), r2, nI_1]
    refine ⟨z_in (by omega) (by decide), fun c => ih (q + 1) (by omega) (fun j hj => ?_), fun c => h2 (fun hh => c ?_)⟩
    · by_cases e : j = q
      · subst e; exact (z_eq (by omega) (by omega)).mp c
      · exact hb j (by omega)
    · rw [bAs_iff.mp hh q hlt]
theorem S_Md_areSo {d : Nat} {s : xS} {T : xT} {w : xWd} {Q : xMV → xWd → Prop} (hS : tS w T) (hr : mRd s w) (hi : rIn s T) (h1 : bAs s T = true → Q (xI 1) w) (h2 : ¬ bAs s T = true → Q (xI 0) w) : xWp (d + 3) m_Md_areSo 0 [xA 7 2, xU] [] w Q :=
  G_Md_areSo_0 (L_Md_areSo hS hr hi h1 h2 (r_n s) 0 (Nat.zero_add _) (fun j hj => absurd hj (Nat.not_lt_zero _)))
/-- line v is of another kind -/
def tKi (T : xT) (v k : Nat) : xT := (tn T, fun l => if l = v then k else tk T l, ta T, tm T, tu T)
theorem tKi_2 (T : xT) (v a b : Nat) : tKi (tKi T v a) v b = tKi T v b := by
  show (tn T, (fun l => if l = v then b else if l = v then a else tk T l), ta T, tm T, tu T) = (tn T, (fun l => if l = v then b else tk T l), ta T, tm T, tu T)
  congr 2
  funext l
  by_cases e : l = v
  · rw [if_pos e, if_pos e]
  · rw [if_neg e, if_neg e, if_neg e]
theorem tKi_W {T : xT} {v k : Nat} (h : tW T) (hk : k ≤ 2) : tW (tKi T v k) := by
  refine ⟨h.1, fun l hl => ?_⟩
  obtain ⟨h1, h2, h3, h4⟩ := h.2 l hl
  refine ⟨?_, h2, h3, h4⟩
  show (if l = v then k else tk T l) ≤ 2
  split <;> omega
theorem tR_ki {w w1 : xWd} {T : xT} {v k : Nat} (hR : tR w 35 T) (hk : k ≤ 2) (e1 : w1 = x_set w 1121 v (nI k)) : tR w1 35 (tKi T v k) := by
  refine ⟨⟨by rw [e1, x_set_o (by decide)]; exact hR.1.1, fun l hl => ?_⟩, tKi_W hR.2 hk⟩
  obtain ⟨f1, f2, f3, f4, f5, f6, f7⟩ := hR.1.2 l hl
  have g1 : w1 (32 * 35 + 1) = upd (w 1121) v (nI k) := by rw [e1]; exact x_set_s
  have g2 : w1 (32 * 35 + 2) = w (32 * 35 + 2) := by rw [e1]; exact x_set_o (by decide)
  have g3 : w1 (32 * 35 + 3) = w (32 * 35 + 3) := by rw [e1]; exact x_set_o (by decide)
  have g4 : w1 (32 * 35 + 4) = w (32 * 35 + 4) := by rw [e1]; exact x_set_o (by decide)
  have g5 : w1 (32 * 35 + 5) = w (32 * 35 + 5) := by rw [e1]; exact x_set_o (by decide)
  have g6 : w1 (32 * 35 + 6) = w (32 * 35 + 6) := by rw [e1]; exact x_set_o (by decide)
  have g7 : w1 (32 * 35 + 7) = w (32 * 35 + 7) := by rw [e1]; exact x_set_o (by decide)
  rw [g1, g2, g3, g4, g5, g6, g7]
  refine ⟨?_, f2, f3, f4, f5, f6, f7⟩
  show upd (w 1121) v (nI k) l = nI (if l = v then k else tk T l)
  by_cases e : l = v
  · rw [if_pos e, e, upd_s]
  · rw [if_neg e, upd_o e]; exact f1
theorem sC_35 {s : xS} {w w' : xWd} (h : sC s w) (hf : fT 35 w w') : sC s w' ∧ fC w w' := ⟨sC_fS h (fun a ha => hf a (by omega) (by omega)), fun a ha => hf a (by omega) (by omega)⟩
theorem fT_tr {t : Nat} {w w1 w2 : xWd} (h : fT t w w1) (h2 : fT t w1 w2) : fT t w w2 := fun b b1 b2 => (h2 b b1 b2).trans (h b b1 b2)
theorem fT_set {w w1 : xWd} {a j : Nat} {v : Int32} (h : a = 35 ∨ (1121 ≤ a ∧ a ≤ 1128)) (e : w1 = x_set w a j v) : fT 35 w w1 := fun b b1 b2 => by rw [e, x_set_o (by omega)]
theorem G_Vp_kinds_0 {d : Nat} {x1 : Int32} {w : xWd} {Q : xMV → xWd → Prop} (h : ((p_lt x1 (w 34 8) → xWp (d + 4) m_Tr_becomeLike 0 [xA 5 35, xA 5 34] [] w (fun a w' => xWp (d + 5) m_Vp_kinds 24 [xA 6 1, xI x1, xU, xU] (x_pu a []) w' Q)) ∧ (¬ (p_lt x1 (w 34 8)) → Q (xI (-1)) w))) : xWp (d + 5) m_Vp_kinds 0 [xA 6 1, xI x1, xU, xU] [] w Q := by
  refine x_goN 3 (pc' := 5) (ls' := [xA 6 1, xI x1, xU, xU]) (st' := [xI x1, xA 5 34]) (w' := w) rfl ?_
  refine x_call (y := m_Tr_isLine) (as := [xA 5 34, xI x1]) (rst := []) rfl [xA 5 34, xI x1] rfl ?_
  refine S_Tr_isLine (fun c1 => ?_) (fun c1 => ?_)
  · skip
    refine x_goN 1 (pc' := if (1 : Int32) = (0 : Int32) then 11 else 13) (ls' := [xA 6 1, xI x1, xU, xU]) (st' := []) (w' := w) rfl ?_
    refine x_brF (by decide) ?_
    refine x_goN 4 (pc' := 21) (ls' := [xA 6 1, xI x1, xU, xU]) (st' := [xA 5 34, xA 5 35]) (w' := w) rfl ?_
    refine x_call (y := m_Tr_becomeLike) (as := [xA 5 35, xA 5 34]) (rst := []) rfl [xA 5 35, xA 5 34] rfl ?_
    exact (h.1 c1)
  · skip
    refine x_goN 1 (pc' := if (0 : Int32) = (0 : Int32) then 11 else 13) (ls' := [xA 6 1, xI x1, xU, xU]) (st' := []) (w' := w) rfl ?_
    refine x_brT (by decide) ?_
    refine x_goN 1 (pc' := 12) (ls' := [xA 6 1, xI x1, xU, xU]) (st' := [xI (-1)]) (w' := w) rfl ?_
    exact x_ret (P := True) rfl trivial (h.2 c1)
theorem G_Vp_kinds_24 {d : Nat} {x1 : Int32} {w : xWd} {Q : xMV → xWd → Prop} (h : xWp (d + 5) m_Vp_kinds 28 [xA 6 1, xI x1, xI 0, xI 0] [] w Q) : xWp (d + 5) m_Vp_kinds 24 [xA 6 1, xI x1, xU, xU] [] w Q := by
  refine x_goN 4 (pc' := 28) (ls' := [xA 6 1, xI x1, xI 0, xI 0]) (st' := []) (w' := w) rfl ?_
  exact h
theorem G_Vp_kinds_28 {d : Nat} {x1 : Int32} {x2 : Int32} {x3 : Int32} {w : xWd} {Q : xMV → xWd → Prop} (h : ((2 < x3 → Q (xI x2) w) ∧ (¬ (2 < x3) → (vp_in x1 8 ∧ ∀ w1 : xWd, w1 = x_set w 1121 x1.toNatClampNeg x3 → xWp (d + 4) m_Rd_areSo 0 [xA 2 39, xA 5 35, xU] [] w1 (fun a w' => xWp (d + 5) m_Vp_kinds 54 [xA 6 1, xI x1, xI x2, xI x3] (x_pu a []) w' Q))))) : xWp (d + 5) m_Vp_kinds 28 [xA 6 1, xI x1, xI x2, xI x3] [] w Q := by
  refine x_goN 3 (pc' := if 2 < x3 then 69 else 33) (ls' := [xA 6 1, xI x1, xI x2, xI x3]) (st' := []) (w' := w) rfl ?_
  refine x_br (fun c1 => ?_) (fun c1 => ?_)
  · skip
    refine x_goN 1 (pc' := 70) (ls' := [xA 6 1, xI x1, xI x2, xI x3]) (st' := [xI x2]) (w' := w) rfl ?_
    exact x_ret (P := True) rfl trivial (h.1 c1)
  · skip
    refine x_goN 5 (pc' := 42) (ls' := [xA 6 1, xI x1, xI x2, xI x3]) (st' := [xI x3, xI x1, xA 108 1121]) (w' := w) rfl ?_
    refine x_obW (P := vp_in x1 8) (pc' := 43) (ls' := [xA 6 1, xI x1, xI x2, xI x3]) (st' := []) (w' := x_set w 1121 x1.toNatClampNeg x3) rfl (h.2 c1).1 (fun w1 ew1 => ?_)
    refine x_goN 4 (pc' := 51) (ls' := [xA 6 1, xI x1, xI x2, xI x3]) (st' := [xA 5 35, xA 2 39]) (w' := w1) rfl ?_
    refine x_call (y := m_Rd_areSo) (as := [xA 2 39, xA 5 35]) (rst := []) rfl [xA 2 39, xA 5 35, xU] rfl ?_
    exact ((h.2 c1).2 w1 ew1)
theorem G_Vp_kinds_54 {d : Nat} {x1 : Int32} {x2 : Int32} {x3 : Int32} {s0 : Int32} {w : xWd} {Q : xMV → xWd → Prop} (h : ((s0 = 0 → xWp (d + 5) m_Vp_kinds 28 [xA 6 1, xI x1, xI x2, xI (x3 + 1)] [] w Q) ∧ (¬ (s0 = 0) → xWp (d + 5) m_Vp_kinds 28 [xA 6 1, xI x1, xI (x2 ||| ((1 : Int32) <<< (x3 &&& 31))), xI (x3 + 1)] [] w Q))) : xWp (d + 5) m_Vp_kinds 54 [xA 6 1, xI x1, xI x2, xI x3] [xI s0] w Q := by
  refine x_goN 1 (pc' := if s0 = 0 then 63 else 57) (ls' := [xA 6 1, xI x1, xI x2, xI x3]) (st' := []) (w' := w) rfl ?_
  refine x_br (fun c1 => ?_) (fun c1 => ?_)
  · skip
    refine x_goN 2 (pc' := 28) (ls' := [xA 6 1, xI x1, xI x2, xI (x3 + 1)]) (st' := []) (w' := w) rfl ?_
    exact (h.1 c1)
  · skip
    refine x_goN 8 (pc' := 28) (ls' := [xA 6 1, xI x1, xI (x2 ||| ((1 : Int32) <<< (x3 &&& 31))), xI (x3 + 1)]) (st' := []) (w' := w) rfl ?_
    exact (h.2 c1)
def mKi (s : xS) (v : Nat) : Nat := z_mk 3 (fun k => bAs s (tKi (s_T s) v k))
theorem L_Vp_kinds {d v : Nat} {s : xS} {w0 : xWd} {Q : xMV → xWd → Prop} (h0 : sC s w0) (hv : v < tn (s_T s)) (hq : ∀ w', sC s w' → fC w0 w' → Q (xI (nI (mKi s v))) w') : ∀ (m k : Nat) (w : xWd), k + m = 3 → (∃ T1, tR w 35 T1 ∧ ∀ j, tKi T1 v j = tKi (s_T s) v j) → fT 35 w0 w → xWp (d + 5) m_Vp_kinds 28 [xA 6 1, xI (nI v), xI (nI (z_mk k (fun k => bAs s (tKi (s_T s) v k)))), xI (nI k)] [] w Q := by
  have h8 := s_n8 h0.1
  intro m
  induction m with
  | zero =>
    intro k w hk hT hf
    have e : k = 3 := by omega
    subst e
    exact G_Vp_kinds_28 ⟨fun _ => hq w (sC_35 h0 hf).1 (sC_35 h0 hf).2, fun c => absurd (by decide) c⟩
  | succ m ih =>
    intro k w hk hT hf
    obtain ⟨T1, hR1, hT1⟩ := hT
    refine G_Vp_kinds_28 ⟨fun c => absurd ((z_lt (a := 2) (by decide) (by omega)).mp c) (by omega), fun _ => ⟨z_in (by omega) (by decide), fun w1 e1 => ?_⟩⟩
    rw [z_cl' (by omega)] at e1
    have hR2 := tR_ki hR1 (by omega) e1
    rw [hT1] at hR2
    have hf1 : fT 35 w0 w1 := fT_tr hf (fT_set (by omega) e1)
    have hC1 := (sC_35 h0 hf1).1
    refine S_Rd_areSo hR2 hC1.2.2.2.1 ⟨h0.1.2.2.1, h0.1.2.2.2⟩ (fun p => ?_) (fun p => ?_)
    · refine G_Vp_kinds_54 ⟨fun c => absurd c n_10, fun _ => ?_⟩
      rw [z_shl k (by omega), z_mk_or (p := fun k => bAs s (tKi (s_T s) v k)) p, nI_1]
      exact ih (k + 1) w1 (by omega) ⟨_, hR2, fun j => tKi_2 _ _ _ _⟩ hf1
    · refine G_Vp_kinds_54 ⟨fun _ => ?_, fun c => absurd rfl c⟩
      rw [z_mk_no (p := fun k => bAs s (tKi (s_T s) v k)) p, nI_1]
      exact ih (k + 1) w1 (by omega) ⟨_, hR2, fun j => tKi_2 _ _ _ _⟩ hf1
theorem x_set_set {w : xWd} {a j : Nat} {u v : Int32} : x_set (x_set w a j u) a j v = x_set w a j v := by
  funext b
  by_cases e : b = a
  · subst e
    rw [x_set_s, x_set_s, x_set_s]
    funext i
    by_cases ei : i = j
    · subst ei; rw [upd_s, upd_s]
    · rw [upd_o ei, upd_o ei, upd_o ei]
  · rw [x_set_o e, x_set_o e, x_set_o e]
theorem x_set_id {w : xWd} {a j : Nat} {v : Int32} (h : w a j = v) : x_set w a j v = w := by
  funext b
  by_cases e : b = a
  · subst e
    rw [x_set_s]
    funext i
    by_cases ei : i = j
    · subst ei; rw [upd_s, h]
    · rw [upd_o ei]
  · rw [x_set_o e]
theorem tS_ki {w : xWd} {T : xT} {v k : Nat} (hS : tS w T) (hk : k ≤ 2) : tS (x_set w 71 v (nI k)) (tKi T v k) := by
  refine ⟨⟨by rw [x_set_o (by decide)]; exact hS.1.1, fun l hl => ?_⟩, tKi_W hS.2 hk⟩
  obtain ⟨f1, f2, f3, f4⟩ := hS.1.2 l hl
  rw [x_set_s, x_set_o (by decide), x_set_o (by decide), x_set_o (by decide)]
  refine ⟨?_, f2, f3, f4⟩
  show upd (w 71) v (nI k) l = nI (if l = v then k else tk T l)
  by_cases e : l = v
  · rw [if_pos e, e, upd_s]
  · rw [if_neg e, upd_o e]; exact f1
theorem mRd_ki {s : xS} {w : xWd} {a j : Nat} {x : Int32} (h : mRd s w) (ha : a = 71 ∨ a = 74) : mRd s (x_set w a j x) := by
  unfold mRd
  rw [x_set_o (show 2 ≠ a by omega), x_set_o (show 92 ≠ a by omega), x_set_o (show 93 ≠ a by omega)]; exact h
theorem G_Md_kinds_0 {d : Nat} {x1 : Int32} {w : xWd} {Q : xMV → xWd → Prop} (h : ((p_lt x1 (w 2 5) → (vp_in x1 8 ∧ xWp (d + 4) m_Md_kinds 22 [xA 7 2, xI x1, xI (w 71 x1.toNatClampNeg), xI 0, xI 0] [] w Q)) ∧ (¬ (p_lt x1 (w 2 5)) → Q (xI (-1)) w))) : xWp (d + 4) m_Md_kinds 0 [xA 7 2, xI x1, xU, xU, xU] [] w Q := by
  refine x_goN 2 (pc' := 2) (ls' := [xA 7 2, xI x1, xU, xU, xU]) (st' := [xI x1, xA 7 2]) (w' := w) rfl ?_
  refine x_call (y := m_Md_isLine) (as := [xA 7 2, xI x1]) (rst := []) rfl [xA 7 2, xI x1] rfl ?_
  refine S_Md_isLine (fun c1 => ?_) (fun c1 => ?_)
  · skip
    refine x_goN 1 (pc' := if (1 : Int32) = (0 : Int32) then 8 else 10) (ls' := [xA 7 2, xI x1, xU, xU, xU]) (st' := []) (w' := w) rfl ?_
    refine x_brF (by decide) ?_
    refine x_goN 3 (pc' := 15) (ls' := [xA 7 2, xI x1, xU, xU, xU]) (st' := [xI x1, xA 108 71]) (w' := w) rfl ?_
    refine x_ob (P := vp_in x1 8) (pc' := 16) (ls' := [xA 7 2, xI x1, xU, xU, xU]) (st' := [xI (w 71 x1.toNatClampNeg)]) (w' := w) rfl (h.1 c1).1 ?_
    refine x_goN 5 (pc' := 22) (ls' := [xA 7 2, xI x1, xI (w 71 x1.toNatClampNeg), xI 0, xI 0]) (st' := []) (w' := w) rfl ?_
    exact (h.1 c1).2
  · skip
    refine x_goN 1 (pc' := if (0 : Int32) = (0 : Int32) then 8 else 10) (ls' := [xA 7 2, xI x1, xU, xU, xU]) (st' := []) (w' := w) rfl ?_
    refine x_brT (by decide) ?_
    refine x_goN 1 (pc' := 9) (ls' := [xA 7 2, xI x1, xU, xU, xU]) (st' := [xI (-1)]) (w' := w) rfl ?_
    exact x_ret (P := True) rfl trivial (h.2 c1)
theorem G_Md_kinds_22 {d : Nat} {x1 : Int32} {x2 : Int32} {x3 : Int32} {x4 : Int32} {w : xWd} {Q : xMV → xWd → Prop} (h : ((3 ≤ x4 → (vp_in x1 8 ∧ ∀ w1 : xWd, w1 = x_set w 71 x1.toNatClampNeg x2 → Q (xI x3) w1)) ∧ (¬ (3 ≤ x4) → (vp_in x1 8 ∧ ∀ w2 : xWd, w2 = x_set w 71 x1.toNatClampNeg x4 → xWp (d + 3) m_Md_areSo 0 [xA 7 2, xU] [] w2 (fun a w' => xWp (d + 4) m_Md_kinds 41 [xA 7 2, xI x1, xI x2, xI x3, xI x4] (x_pu a [xI x3]) w' Q))))) : xWp (d + 4) m_Md_kinds 22 [xA 7 2, xI x1, xI x2, xI x3, xI x4] [] w Q := by
  refine x_goN 3 (pc' := if 3 ≤ x4 then 60 else 28) (ls' := [xA 7 2, xI x1, xI x2, xI x3, xI x4]) (st' := []) (w' := w) rfl ?_
  refine x_br (fun c1 => ?_) (fun c1 => ?_)
  · skip
    refine x_goN 4 (pc' := 66) (ls' := [xA 7 2, xI x1, xI x2, xI x3, xI x4]) (st' := [xI x2, xI x1, xA 108 71]) (w' := w) rfl ?_
    refine x_obW (P := vp_in x1 8) (pc' := 67) (ls' := [xA 7 2, xI x1, xI x2, xI x3, xI x4]) (st' := []) (w' := x_set w 71 x1.toNatClampNeg x2) rfl (h.1 c1).1 (fun w1 ew1 => ?_)
    refine x_goN 1 (pc' := 68) (ls' := [xA 7 2, xI x1, xI x2, xI x3, xI x4]) (st' := [xI x3]) (w' := w1) rfl ?_
    exact x_ret (P := True) rfl trivial ((h.1 c1).2 w1 ew1)
  · skip
    refine x_goN 4 (pc' := 35) (ls' := [xA 7 2, xI x1, xI x2, xI x3, xI x4]) (st' := [xI x4, xI x1, xA 108 71]) (w' := w) rfl ?_
    refine x_obW (P := vp_in x1 8) (pc' := 36) (ls' := [xA 7 2, xI x1, xI x2, xI x3, xI x4]) (st' := []) (w' := x_set w 71 x1.toNatClampNeg x4) rfl (h.2 c1).1 (fun w2 ew2 => ?_)
    refine x_goN 2 (pc' := 38) (ls' := [xA 7 2, xI x1, xI x2, xI x3, xI x4]) (st' := [xA 7 2, xI x3]) (w' := w2) rfl ?_
    refine x_call (y := m_Md_areSo) (as := [xA 7 2]) (rst := [xI x3]) rfl [xA 7 2, xU] rfl ?_
    exact ((h.2 c1).2 w2 ew2)
theorem G_Md_kinds_41 {d : Nat} {x1 : Int32} {x2 : Int32} {x3 : Int32} {x4 : Int32} {s1 : Int32} {s0 : Int32} {w : xWd} {Q : xMV → xWd → Prop} (h : ((s1 = 0 → xWp (d + 4) m_Md_kinds 22 [xA 7 2, xI x1, xI x2, xI (s0 ||| 0), xI (x4 + 1)] [] w Q) ∧ (¬ (s1 = 0) → xWp (d + 4) m_Md_kinds 22 [xA 7 2, xI x1, xI x2, xI (s0 ||| ((1 : Int32) <<< (x4 &&& 31))), xI (x4 + 1)] [] w Q))) : xWp (d + 4) m_Md_kinds 41 [xA 7 2, xI x1, xI x2, xI x3, xI x4] [xI s1, xI s0] w Q := by
  refine x_goN 1 (pc' := if s1 = 0 then 51 else 44) (ls' := [xA 7 2, xI x1, xI x2, xI x3, xI x4]) (st' := [xI s0]) (w' := w) rfl ?_
  refine x_br (fun c1 => ?_) (fun c1 => ?_)
  · skip
    refine x_goN 5 (pc' := 22) (ls' := [xA 7 2, xI x1, xI x2, xI (s0 ||| 0), xI (x4 + 1)]) (st' := []) (w' := w) rfl ?_
    exact (h.1 c1)
  · skip
    refine x_goN 8 (pc' := 22) (ls' := [xA 7 2, xI x1, xI x2, xI (s0 ||| ((1 : Int32) <<< (x4 &&& 31))), xI (x4 + 1)]) (st' := []) (w' := w) rfl ?_
    exact (h.2 c1)
theorem L_Md_kinds {d v : Nat} {s : xS} {w0 : xWd} {Q : xMV → xWd → Prop} (h0 : sM s w0) (hv : v < tn (s_T s)) (hq : Q (xI (nI (mKi s v))) w0) : ∀ (m k : Nat) (x : Int32), k + m = 3 → xWp (d + 4) m_Md_kinds 22 [xA 7 2, xI (nI v), xI (w0 71 v), xI (nI (z_mk k (fun k => bAs s (tKi (s_T s) v k)))), xI (nI k)] [] (x_set w0 71 v x) Q := by
  have h8 := s_n8 h0.1
  intro m
  induction m with
  | zero =>
    intro k x hk
    have e : k = 3 := by omega
    subst e
    refine G_Md_kinds_22 ⟨fun _ => ⟨z_in (by omega) (by decide), fun w1 e1 => ?_⟩, fun c => absurd (by decide) c⟩
    rw [z_cl' (by omega), x_set_set, x_set_id rfl] at e1
    rw [e1]; exact hq
  | succ m ih =>
    intro k x hk
    refine G_Md_kinds_22 ⟨fun c => absurd ((z_le (a := 3) (by decide) (by omega)).mp c) (by omega), fun _ => ⟨z_in (by omega) (by decide), fun w1 e1 => ?_⟩⟩
    rw [z_cl' (by omega), x_set_set] at e1
    have hS1 := tS_ki (v := v) (sM_S h0) (show k ≤ 2 by omega)
    rw [← e1] at hS1
    have hr1 : mRd s w1 := by rw [e1]; exact mRd_ki h0.2.2.2.1 (Or.inl rfl)
    refine S_Md_areSo hS1 hr1 ⟨h0.1.2.2.1, h0.1.2.2.2⟩ (fun p => ?_) (fun p => ?_)
    · refine G_Md_kinds_41 ⟨fun c => absurd c n_10, fun _ => ?_⟩
      rw [z_shl k (by omega), z_mk_or (p := fun k => bAs s (tKi (s_T s) v k)) p, nI_1, e1]
      exact ih (k + 1) _ (by omega)
    · refine G_Md_kinds_41 ⟨fun _ => ?_, fun c => absurd rfl c⟩
      rw [z_or0, z_mk_no (p := fun k => bAs s (tKi (s_T s) v k)) p, nI_1, e1]
      exact ih (k + 1) _ (by omega)
theorem O_kinds (s : xS) (x : Int32) : oB m_Vp_kinds [xA 6 1, xI x, xU, xU] m_Md_kinds [xA 7 2, xI x, xU, xU, xU] s := by
  by_cases hp : pL (s_T s) x
  · obtain ⟨v, hv, rfl⟩ := hp
    refine ⟨(nI (mKi s v)), s, fun w h => ?_, fun w h => ?_⟩
    · refine G_Vp_kinds_0 ⟨fun _ => S_Tr_becomeLike (by decide) (by decide) (by decide) (sC_R h) (fun w1 hR1 hf1 => ?_), fun c => absurd (tR_lt (sC_R h) hv) c⟩
      refine G_Vp_kinds_24 ?_
      exact L_Vp_kinds h hv (fun w' h' f' => ⟨rfl, h', f'⟩) 3 0 w1 rfl ⟨_, hR1, fun _ => rfl⟩ hf1
    · have h8 := s_n8 h.1
      refine G_Md_kinds_0 ⟨fun _ => ⟨z_in (by omega) (by decide), ?_⟩, fun c => absurd (tS_lt (sM_S h) hv) c⟩
      have := L_Md_kinds (d := 2) (Q := fun a w' => a = xI (nI (mKi s v)) ∧ sM s w' ∧ fM w w') h hv (mE h) 3 0 (w 71 v) rfl
      rw [x_set_id rfl] at this
      rw [z_cl' (by omega)]
      exact this
  · exact ⟨(-1), s, fun w h => G_Vp_kinds_0 ⟨fun c => absurd ((pL_C h).mp c) hp, fun _ => cE h⟩, fun w h => G_Md_kinds_0 ⟨fun c => absurd ((pL_M h).mp c) hp, fun _ => mE h⟩⟩
/-! firsts -/
def bUf (T : xT) (l v : Nat) : Bool := tb T l v && (decide (tm T l ≠ 2) || decide (tu T (2 * l + 1) ≠ v))
theorem bUf_iff {T : xT} {l v : Nat} (h8 : tn T ≤ 8) (hl : l < tn T) (hm0 : 0 < tm T l) (hm : tm T l ≤ 2) (hv : v < tn T) : pU T (nI l) (nI 0) (nI v) ↔ bUf T l v = true := by
  rw [pU_iff h8 hl hm0 hm hv]
  unfold bUf
  rw [Bool.and_eq_true, Bool.or_eq_true, decide_eq_true_eq, decide_eq_true_eq]
  constructor
  · rintro ⟨a, b⟩
    refine ⟨a, ?_⟩
    by_cases e : tm T l = 2
    · exact Or.inr (b e)
    · exact Or.inl e
  · rintro ⟨a, b⟩
    refine ⟨a, fun e => ?_⟩
    rcases b with b | b
    · exact absurd e b
    · exact b
theorem tReu_2 (T : xT) (l i a b : Nat) : tReu (tReu T l i a) l i b = tReu T l i b := by
  show (tn T, tk T, ta T, tm T, (fun j => if j = 2 * l + i then b else if j = 2 * l + i then a else tu T j)) = (tn T, tk T, ta T, tm T, (fun j => if j = 2 * l + i then b else tu T j))
  congr 4
  funext j
  by_cases e : j = 2 * l + i
  · rw [if_pos e, if_pos e]
  · rw [if_neg e, if_neg e, if_neg e]
def fFi (s : xS) (l v : Nat) : Bool := bUf (s_T s) l v && bAs s (tReu (s_T s) l 0 v)
def mFi (s : xS) (l : Nat) : Nat := z_mk (tn (s_T s)) (fFi s l)
theorem G_Vp_firsts_0 {d : Nat} {T : xT} {x1 : Int32} {w : xWd} {Q : xMV → xWd → Prop} (h : ((p_lt x1 (w 34 8) → ((tR w 34 T) ∧ ((pP T x1 0 → xWp (d + 4) m_Tr_becomeLike 0 [xA 5 35, xA 5 34] [] w (fun a w' => xWp (d + 5) m_Vp_firsts 39 [xA 6 1, xI x1, xU, xU] (x_pu a []) w' Q)) ∧ (¬ (pP T x1 0) → Q (xI (-3)) w)))) ∧ (¬ (p_lt x1 (w 34 8)) → Q (xI (-1)) w))) : xWp (d + 5) m_Vp_firsts 0 [xA 6 1, xI x1, xU, xU] [] w Q := by
  refine x_goN 3 (pc' := 5) (ls' := [xA 6 1, xI x1, xU, xU]) (st' := [xI x1, xA 5 34]) (w' := w) rfl ?_
  refine x_call (y := m_Tr_isLine) (as := [xA 5 34, xI x1]) (rst := []) rfl [xA 5 34, xI x1] rfl ?_
  refine S_Tr_isLine (fun c1 => ?_) (fun c1 => ?_)
  · skip
    refine x_goN 1 (pc' := if (1 : Int32) = (0 : Int32) then 11 else 13) (ls' := [xA 6 1, xI x1, xU, xU]) (st' := []) (w' := w) rfl ?_
    refine x_brF (by decide) ?_
    refine x_goN 4 (pc' := 19) (ls' := [xA 6 1, xI x1, xU, xU]) (st' := [xI 0, xI x1, xA 5 34]) (w' := w) rfl ?_
    refine x_call (y := m_Tr_hasPlace) (as := [xA 5 34, xI x1, xI 0]) (rst := []) rfl [xA 5 34, xI x1, xI 0] rfl ?_
    refine S_Tr_hasPlace (h.1 c1).1 (fun c2 => ?_) (fun c2 => ?_)
    · skip
      refine x_goN 1 (pc' := if (1 : Int32) = (0 : Int32) then 25 else 28) (ls' := [xA 6 1, xI x1, xU, xU]) (st' := []) (w' := w) rfl ?_
      refine x_brF (by decide) ?_
      refine x_goN 4 (pc' := 36) (ls' := [xA 6 1, xI x1, xU, xU]) (st' := [xA 5 34, xA 5 35]) (w' := w) rfl ?_
      refine x_call (y := m_Tr_becomeLike) (as := [xA 5 35, xA 5 34]) (rst := []) rfl [xA 5 35, xA 5 34] rfl ?_
      exact ((h.1 c1).2.1 c2)
    · skip
      refine x_goN 1 (pc' := if (0 : Int32) = (0 : Int32) then 25 else 28) (ls' := [xA 6 1, xI x1, xU, xU]) (st' := []) (w' := w) rfl ?_
      refine x_brT (by decide) ?_
      refine x_goN 1 (pc' := 27) (ls' := [xA 6 1, xI x1, xU, xU]) (st' := [xI (-3)]) (w' := w) rfl ?_
      exact x_ret (P := True) rfl trivial ((h.1 c1).2.2 c2)
  · skip
    refine x_goN 1 (pc' := if (0 : Int32) = (0 : Int32) then 11 else 13) (ls' := [xA 6 1, xI x1, xU, xU]) (st' := []) (w' := w) rfl ?_
    refine x_brT (by decide) ?_
    refine x_goN 1 (pc' := 12) (ls' := [xA 6 1, xI x1, xU, xU]) (st' := [xI (-1)]) (w' := w) rfl ?_
    exact x_ret (P := True) rfl trivial (h.2 c1)
theorem G_Vp_firsts_39 {d : Nat} {x1 : Int32} {w : xWd} {Q : xMV → xWd → Prop} (h : xWp (d + 5) m_Vp_firsts 43 [xA 6 1, xI x1, xI 0, xI 0] [] w Q) : xWp (d + 5) m_Vp_firsts 39 [xA 6 1, xI x1, xU, xU] [] w Q := by
  refine x_goN 4 (pc' := 43) (ls' := [xA 6 1, xI x1, xI 0, xI 0]) (st' := []) (w' := w) rfl ?_
  exact h
theorem G_Vp_firsts_43 {d : Nat} {T : xT} {x1 : Int32} {x2 : Int32} {x3 : Int32} {w : xWd} {Q : xMV → xWd → Prop} (h : ((w 34 8 ≤ x3 → Q (xI x2) w) ∧ (¬ (w 34 8 ≤ x3) → ((tR w 34 T) ∧ ((pU T x1 0 x3 → xWp (d + 4) m_Tr_useInstead 0 [xA 5 35, xI x1, xI 0, xI x3] [] w (fun a w' => xWp (d + 5) m_Vp_firsts 77 [xA 6 1, xI x1, xI x2, xI x3] (x_pu a []) w' Q)) ∧ (¬ (pU T x1 0 x3) → xWp (d + 5) m_Vp_firsts 43 [xA 6 1, xI x1, xI x2, xI (x3 + 1)] [] w Q)))))) : xWp (d + 5) m_Vp_firsts 43 [xA 6 1, xI x1, xI x2, xI x3] [] w Q := by
  refine x_goN 5 (pc' := if w 34 8 ≤ x3 then 103 else 54) (ls' := [xA 6 1, xI x1, xI x2, xI x3]) (st' := []) (w' := w) rfl ?_
  refine x_br (fun c1 => ?_) (fun c1 => ?_)
  · skip
    refine x_goN 1 (pc' := 104) (ls' := [xA 6 1, xI x1, xI x2, xI x3]) (st' := [xI x2]) (w' := w) rfl ?_
    exact x_ret (P := True) rfl trivial (h.1 c1)
  · skip
    refine x_goN 5 (pc' := 61) (ls' := [xA 6 1, xI x1, xI x2, xI x3]) (st' := [xI x3, xI 0, xI x1, xA 5 34]) (w' := w) rfl ?_
    refine x_call (y := m_Tr_mayUse) (as := [xA 5 34, xI x1, xI 0, xI x3]) (rst := []) rfl [xA 5 34, xI x1, xI 0, xI x3] rfl ?_
    refine S_Tr_mayUse (h.2 c1).1 (fun c2 => ?_) (fun c2 => ?_)
    · skip
      refine x_goN 1 (pc' := if (1 : Int32) = (0 : Int32) then 97 else 67) (ls' := [xA 6 1, xI x1, xI x2, xI x3]) (st' := []) (w' := w) rfl ?_
      refine x_brF (by decide) ?_
      refine x_goN 5 (pc' := 74) (ls' := [xA 6 1, xI x1, xI x2, xI x3]) (st' := [xI x3, xI 0, xI x1, xA 5 35]) (w' := w) rfl ?_
      refine x_call (y := m_Tr_useInstead) (as := [xA 5 35, xI x1, xI 0, xI x3]) (rst := []) rfl [xA 5 35, xI x1, xI 0, xI x3] rfl ?_
      exact ((h.2 c1).2.1 c2)
    · skip
      refine x_goN 1 (pc' := if (0 : Int32) = (0 : Int32) then 97 else 67) (ls' := [xA 6 1, xI x1, xI x2, xI x3]) (st' := []) (w' := w) rfl ?_
      refine x_brT (by decide) ?_
      refine x_goN 2 (pc' := 43) (ls' := [xA 6 1, xI x1, xI x2, xI (x3 + 1)]) (st' := []) (w' := w) rfl ?_
      exact ((h.2 c1).2.2 c2)
theorem G_Vp_firsts_77 {d : Nat} {x1 : Int32} {x2 : Int32} {x3 : Int32} {w : xWd} {Q : xMV → xWd → Prop} (h : xWp (d + 4) m_Rd_areSo 0 [xA 2 39, xA 5 35, xU] [] w (fun a w' => xWp (d + 5) m_Vp_firsts 88 [xA 6 1, xI x1, xI x2, xI x3] (x_pu a []) w' Q)) : xWp (d + 5) m_Vp_firsts 77 [xA 6 1, xI x1, xI x2, xI x3] [] w Q := by
  refine x_goN 4 (pc' := 85) (ls' := [xA 6 1, xI x1, xI x2, xI x3]) (st' := [xA 5 35, xA 2 39]) (w' := w) rfl ?_
  refine x_call (y := m_Rd_areSo) (as := [xA 2 39, xA 5 35]) (rst := []) rfl [xA 2 39, xA 5 35, xU] rfl ?_
  exact h
theorem G_Vp_firsts_88 {d : Nat} {x1 : Int32} {x2 : Int32} {x3 : Int32} {s0 : Int32} {w : xWd} {Q : xMV → xWd → Prop} (h : ((s0 = 0 → xWp (d + 5) m_Vp_firsts 43 [xA 6 1, xI x1, xI x2, xI (x3 + 1)] [] w Q) ∧ (¬ (s0 = 0) → xWp (d + 5) m_Vp_firsts 43 [xA 6 1, xI x1, xI (x2 ||| ((1 : Int32) <<< (x3 &&& 31))), xI (x3 + 1)] [] w Q))) : xWp (d + 5) m_Vp_firsts 88 [xA 6 1, xI x1, xI x2, xI x3] [xI s0] w Q := by
  refine x_goN 1 (pc' := if s0 = 0 then 97 else 91) (ls' := [xA 6 1, xI x1, xI x2, xI x3]) (st' := []) (w' := w) rfl ?_
  refine x_br (fun c1 => ?_) (fun c1 => ?_)
  · skip
    refine x_goN 2 (pc' := 43) (ls' := [xA 6 1, xI x1, xI x2, xI (x3 + 1)]) (st' := []) (w' := w) rfl ?_
    exact (h.1 c1)
  · skip
    refine x_goN 8 (pc' := 43) (ls' := [xA 6 1, xI x1, xI (x2 ||| ((1 : Int32) <<< (x3 &&& 31))), xI (x3 + 1)]) (st' := []) (w' := w) rfl ?_
    exact (h.2 c1)
theorem L_Vp_firsts {d l : Nat} {s : xS} {w0 : xWd} {Q : xMV → xWd → Prop} (h0 : sC s w0) (hl : l < tn (s_T s)) (hm0 : 0 < tm (s_T s) l) (hq : ∀ w', sC s w' → fC w0 w' → Q (xI (nI (mFi s l))) w') : ∀ (m v : Nat) (w : xWd), v + m = tn (s_T s) → (∃ T1, tR w 35 T1 ∧ (T1 = s_T s ∨ ∃ u, T1 = tReu (s_T s) l 0 u)) → fT 35 w0 w → xWp (d + 5) m_Vp_firsts 43 [xA 6 1, xI (nI l), xI (nI (z_mk v (fFi s l))), xI (nI v)] [] w Q := by
  have h8 := s_n8 h0.1
  have hW := h0.1.2.1
  have hml := (hW.2 l hl).2.1
  intro m
  induction m with
  | zero =>
    intro v w hv hT hf
    have e : v = tn (s_T s) := by omega
    subst e
    have hC := (sC_35 h0 hf).1
    exact G_Vp_firsts_43 (T := s_T s) ⟨fun _ => hq w hC (sC_35 h0 hf).2, fun c => absurd (tR_end (sC_R hC)) c⟩
  | succ m ih =>
    intro v w hv hT hf
    obtain ⟨T1, hR1, hT1⟩ := hT
    have hvl : v < tn (s_T s) := by omega
    have hC := (sC_35 h0 hf).1
    have e1 : tn T1 = tn (s_T s) := by
      rcases hT1 with e | ⟨u, e⟩ <;> rw [e]
      rfl
    have e2 : tm T1 l = tm (s_T s) l := by
      rcases hT1 with e | ⟨u, e⟩ <;> rw [e]
      rfl
    have e3 : tReu T1 l 0 v = tReu (s_T s) l 0 v := by
      rcases hT1 with e | ⟨u, e⟩ <;> rw [e]
      exact tReu_2 _ _ _ _ _
    have e4 : bUf T1 l v = bUf (s_T s) l v := by
      rcases hT1 with e | ⟨u, e⟩ <;> rw [e]
      unfold bUf
      rw [tReu_u (by omega)]
      rfl
    refine G_Vp_firsts_43 (T := s_T s) ⟨fun c => absurd c (tR_ge (sC_R hC) hvl), fun _ => ⟨sC_R hC, fun c => ?_, fun c => ?_⟩⟩
    · have hb := (bUf_iff h8 hl hm0 hml hvl).mp c
      have c' : pU T1 (nI l) (nI 0) (nI v) := (bUf_iff (by omega) (by omega) (by omega) (by omega) (by omega)).mpr (by rw [e4]; exact hb)
      refine S_Tr_useInstead (b := 0) (by decide) hR1 (by omega) (by omega) (by omega) c' (fun w2 hR2 hf2 => ?_)
      rw [e3] at hR2
      have hf3 : fT 35 w0 w2 := fT_tr hf hf2
      have hC3 := (sC_35 h0 hf3).1
      refine G_Vp_firsts_77 (S_Rd_areSo hR2 hC3.2.2.2.1 ⟨h0.1.2.2.1, h0.1.2.2.2⟩ (fun p => ?_) (fun p => ?_))
      · refine G_Vp_firsts_88 ⟨fun c => absurd c n_10, fun _ => ?_⟩
        rw [z_shl v (by omega), z_mk_or (p := fFi s l) (by unfold fFi; rw [hb, p]; rfl), nI_1]
        exact ih (v + 1) w2 (by omega) ⟨_, hR2, Or.inr ⟨v, rfl⟩⟩ hf3
      · refine G_Vp_firsts_88 ⟨fun _ => ?_, fun c => absurd rfl c⟩
        rw [z_mk_no (p := fFi s l) (fun q => by unfold fFi at q; rw [Bool.and_eq_true] at q; exact p q.2), nI_1]
        exact ih (v + 1) w2 (by omega) ⟨_, hR2, Or.inr ⟨v, rfl⟩⟩ hf3
    · have hb := fun q => c ((bUf_iff h8 hl hm0 hml hvl).mpr q)
      rw [z_mk_no (p := fFi s l) (fun q => by unfold fFi at q; rw [Bool.and_eq_true] at q; exact hb q.1), nI_1]
      exact ih (v + 1) w (by omega) ⟨T1, hR1, hT1⟩ hf
theorem G_Md_firsts_0 {d : Nat} {x1 : Int32} {w : xWd} {Q : xMV → xWd → Prop} (h : ((p_lt x1 (w 2 5) → (vp_in x1 8 ∧ ((w 73 x1.toNatClampNeg = 0 → Q (xI (-3)) w) ∧ (¬ (w 73 x1.toNatClampNeg = 0) → (vp_in (2 * x1) 16 ∧ xWp (d + 4) m_Md_firsts 36 [xA 7 2, xI x1, xI (w 74 (2 * x1).toNatClampNeg), xI 0, xI 0] [] w Q))))) ∧ (¬ (p_lt x1 (w 2 5)) → Q (xI (-1)) w))) : xWp (d + 4) m_Md_firsts 0 [xA 7 2, xI x1, xU, xU, xU] [] w Q := by
  refine x_goN 2 (pc' := 2) (ls' := [xA 7 2, xI x1, xU, xU, xU]) (st' := [xI x1, xA 7 2]) (w' := w) rfl ?_
  refine x_call (y := m_Md_isLine) (as := [xA 7 2, xI x1]) (rst := []) rfl [xA 7 2, xI x1] rfl ?_
  refine S_Md_isLine (fun c1 => ?_) (fun c1 => ?_)
  · skip
    refine x_goN 1 (pc' := if (1 : Int32) = (0 : Int32) then 8 else 10) (ls' := [xA 7 2, xI x1, xU, xU, xU]) (st' := []) (w' := w) rfl ?_
    refine x_brF (by decide) ?_
    refine x_goN 3 (pc' := 15) (ls' := [xA 7 2, xI x1, xU, xU, xU]) (st' := [xI x1, xA 108 73]) (w' := w) rfl ?_
    refine x_ob (P := vp_in x1 8) (pc' := 16) (ls' := [xA 7 2, xI x1, xU, xU, xU]) (st' := [xI (w 73 x1.toNatClampNeg)]) (w' := w) rfl (h.1 c1).1 ?_
    refine x_goN 1 (pc' := if w 73 x1.toNatClampNeg = 0 then 19 else 22) (ls' := [xA 7 2, xI x1, xU, xU, xU]) (st' := []) (w' := w) rfl ?_
    refine x_br (fun c2 => ?_) (fun c2 => ?_)
    · skip
      refine x_goN 1 (pc' := 21) (ls' := [xA 7 2, xI x1, xU, xU, xU]) (st' := [xI (-3)]) (w' := w) rfl ?_
      exact x_ret (P := True) rfl trivial ((h.1 c1).2.1 c2)
    · skip
      refine x_goN 5 (pc' := 29) (ls' := [xA 7 2, xI x1, xU, xU, xU]) (st' := [xI (2 * x1), xA 116 74]) (w' := w) rfl ?_
      refine x_ob (P := vp_in (2 * x1) 16) (pc' := 30) (ls' := [xA 7 2, xI x1, xU, xU, xU]) (st' := [xI (w 74 (2 * x1).toNatClampNeg)]) (w' := w) rfl ((h.1 c1).2.2 c2).1 ?_
      refine x_goN 5 (pc' := 36) (ls' := [xA 7 2, xI x1, xI (w 74 (2 * x1).toNatClampNeg), xI 0, xI 0]) (st' := []) (w' := w) rfl ?_
      exact ((h.1 c1).2.2 c2).2
  · skip
    refine x_goN 1 (pc' := if (0 : Int32) = (0 : Int32) then 8 else 10) (ls' := [xA 7 2, xI x1, xU, xU, xU]) (st' := []) (w' := w) rfl ?_
    refine x_brT (by decide) ?_
    refine x_goN 1 (pc' := 9) (ls' := [xA 7 2, xI x1, xU, xU, xU]) (st' := [xI (-1)]) (w' := w) rfl ?_
    exact x_ret (P := True) rfl trivial (h.2 c1)
theorem G_Md_firsts_36 {d : Nat} {x1 : Int32} {x2 : Int32} {x3 : Int32} {x4 : Int32} {w : xWd} {Q : xMV → xWd → Prop} (h : ((w 2 5 ≤ x4 → (vp_in (2 * x1) 16 ∧ ∀ w1 : xWd, w1 = x_set w 74 ((2 * x1).toNatClampNeg) x2 → Q (xI x3) w1)) ∧ (¬ (w 2 5 ≤ x4) → xWp (d + 3) m_Md_canReuse 0 [xA 7 2, xI x1, xI 0, xI x4] [] w (fun a w' => xWp (d + 4) m_Md_firsts 53 [xA 7 2, xI x1, xI x2, xI x3, xI x4] (x_pu a []) w' Q)))) : xWp (d + 4) m_Md_firsts 36 [xA 7 2, xI x1, xI x2, xI x3, xI x4] [] w Q := by
  refine x_goN 4 (pc' := if w 2 5 ≤ x4 then 90 else 45) (ls' := [xA 7 2, xI x1, xI x2, xI x3, xI x4]) (st' := []) (w' := w) rfl ?_
  refine x_br (fun c1 => ?_) (fun c1 => ?_)
  · skip
    refine x_goN 6 (pc' := 98) (ls' := [xA 7 2, xI x1, xI x2, xI x3, xI x4]) (st' := [xI x2, xI (2 * x1), xA 116 74]) (w' := w) rfl ?_
    refine x_obW (P := vp_in (2 * x1) 16) (pc' := 99) (ls' := [xA 7 2, xI x1, xI x2, xI x3, xI x4]) (st' := []) (w' := x_set w 74 ((2 * x1).toNatClampNeg) x2) rfl (h.1 c1).1 (fun w1 ew1 => ?_)
    refine x_goN 1 (pc' := 100) (ls' := [xA 7 2, xI x1, xI x2, xI x3, xI x4]) (st' := [xI x3]) (w' := w1) rfl ?_
    exact x_ret (P := True) rfl trivial ((h.1 c1).2 w1 ew1)
  · skip
    refine x_goN 4 (pc' := 50) (ls' := [xA 7 2, xI x1, xI x2, xI x3, xI x4]) (st' := [xI x4, xI 0, xI x1, xA 7 2]) (w' := w) rfl ?_
    refine x_call (y := m_Md_canReuse) (as := [xA 7 2, xI x1, xI 0, xI x4]) (rst := []) rfl [xA 7 2, xI x1, xI 0, xI x4] rfl ?_
    exact (h.2 c1)
theorem G_Md_firsts_53 {d : Nat} {x1 : Int32} {x2 : Int32} {x3 : Int32} {x4 : Int32} {s0 : Int32} {w : xWd} {Q : xMV → xWd → Prop} (h : ((s0 = 0 → xWp (d + 4) m_Md_firsts 36 [xA 7 2, xI x1, xI x2, xI x3, xI (x4 + 1)] [] w Q) ∧ (¬ (s0 = 0) → (vp_in (2 * x1) 16 ∧ ∀ w1 : xWd, w1 = x_set w 74 ((2 * x1).toNatClampNeg) x4 → xWp (d + 3) m_Md_areSo 0 [xA 7 2, xU] [] w1 (fun a w' => xWp (d + 4) m_Md_firsts 71 [xA 7 2, xI x1, xI x2, xI x3, xI x4] (x_pu a [xI x3]) w' Q))))) : xWp (d + 4) m_Md_firsts 53 [xA 7 2, xI x1, xI x2, xI x3, xI x4] [xI s0] w Q := by
  refine x_goN 1 (pc' := if s0 = 0 then 84 else 56) (ls' := [xA 7 2, xI x1, xI x2, xI x3, xI x4]) (st' := []) (w' := w) rfl ?_
  refine x_br (fun c1 => ?_) (fun c1 => ?_)
  · skip
    refine x_goN 2 (pc' := 36) (ls' := [xA 7 2, xI x1, xI x2, xI x3, xI (x4 + 1)]) (st' := []) (w' := w) rfl ?_
    exact (h.1 c1)
  · skip
    refine x_goN 6 (pc' := 65) (ls' := [xA 7 2, xI x1, xI x2, xI x3, xI x4]) (st' := [xI x4, xI (2 * x1), xA 116 74]) (w' := w) rfl ?_
    refine x_obW (P := vp_in (2 * x1) 16) (pc' := 66) (ls' := [xA 7 2, xI x1, xI x2, xI x3, xI x4]) (st' := []) (w' := x_set w 74 ((2 * x1).toNatClampNeg) x4) rfl (h.2 c1).1 (fun w1 ew1 => ?_)
    refine x_goN 2 (pc' := 68) (ls' := [xA 7 2, xI x1, xI x2, xI x3, xI x4]) (st' := [xA 7 2, xI x3]) (w' := w1) rfl ?_
    refine x_call (y := m_Md_areSo) (as := [xA 7 2]) (rst := [xI x3]) rfl [xA 7 2, xU] rfl ?_
    exact ((h.2 c1).2 w1 ew1)
theorem G_Md_firsts_71 {d : Nat} {x1 : Int32} {x2 : Int32} {x3 : Int32} {x4 : Int32} {s1 : Int32} {s0 : Int32} {w : xWd} {Q : xMV → xWd → Prop} (h : ((s1 = 0 → xWp (d + 4) m_Md_firsts 36 [xA 7 2, xI x1, xI x2, xI (s0 ||| 0), xI (x4 + 1)] [] w Q) ∧ (¬ (s1 = 0) → xWp (d + 4) m_Md_firsts 36 [xA 7 2, xI x1, xI x2, xI (s0 ||| ((1 : Int32) <<< (x4 &&& 31))), xI (x4 + 1)] [] w Q))) : xWp (d + 4) m_Md_firsts 71 [xA 7 2, xI x1, xI x2, xI x3, xI x4] [xI s1, xI s0] w Q := by
  refine x_goN 1 (pc' := if s1 = 0 then 81 else 74) (ls' := [xA 7 2, xI x1, xI x2, xI x3, xI x4]) (st' := [xI s0]) (w' := w) rfl ?_
  refine x_br (fun c1 => ?_) (fun c1 => ?_)
  · skip
    refine x_goN 5 (pc' := 36) (ls' := [xA 7 2, xI x1, xI x2, xI (s0 ||| 0), xI (x4 + 1)]) (st' := []) (w' := w) rfl ?_
    exact (h.1 c1)
  · skip
    refine x_goN 8 (pc' := 36) (ls' := [xA 7 2, xI x1, xI x2, xI (s0 ||| ((1 : Int32) <<< (x4 &&& 31))), xI (x4 + 1)]) (st' := []) (w' := w) rfl ?_
    exact (h.2 c1)
theorem L_Md_firsts {d l : Nat} {s : xS} {w0 : xWd} {Q : xMV → xWd → Prop} (h0 : sM s w0) (hl : l < tn (s_T s)) (hm0 : 0 < tm (s_T s) l) (hq : Q (xI (nI (mFi s l))) w0) : ∀ (m v : Nat) (x : Int32), v + m = tn (s_T s) → (∃ T1, tS (x_set w0 74 (2 * l) x) T1 ∧ (T1 = s_T s ∨ ∃ u, T1 = tReu (s_T s) l 0 u)) → xWp (d + 4) m_Md_firsts 36 [xA 7 2, xI (nI l), xI (w0 74 (2 * l)), xI (nI (z_mk v (fFi s l))), xI (nI v)] [] (x_set w0 74 (2 * l) x) Q := by
  have h8 := s_n8 h0.1
  have hW := h0.1.2.1
  have hml := (hW.2 l hl).2.1
  have e2l : (2 : Int32) * nI l = nI (2 * l) := pk_mul 2 l
  intro m
  induction m with
  | zero =>
    intro v x hv hT
    have e : v = tn (s_T s) := by omega
    subst e
    refine G_Md_firsts_36 ?_
    rw [e2l, z_cl' (by omega)]
    refine ⟨fun _ => ⟨z_in (by omega) (by decide), fun w1 e1 => ?_⟩, fun c => absurd ?_ c⟩
    · rw [x_set_set, x_set_id rfl] at e1
      rw [e1]; exact hq
    · rw [x_set_o (by decide)]; exact tS_end (sM_S h0)
  | succ m ih =>
    intro v x hv hT
    obtain ⟨T1, hS1, hT1⟩ := hT
    have hvl : v < tn (s_T s) := by omega
    have e1 : tn T1 = tn (s_T s) := by
      rcases hT1 with e | ⟨u, e⟩ <;> rw [e]
      rfl
    have e2 : tm T1 l = tm (s_T s) l := by
      rcases hT1 with e | ⟨u, e⟩ <;> rw [e]
      rfl
    have e4 : bUf T1 l v = bUf (s_T s) l v := by
      rcases hT1 with e | ⟨u, e⟩ <;> rw [e]
      unfold bUf
      rw [tReu_u (by omega)]
      rfl
    have hb1 := bUf_iff (T := T1) (l := l) (v := v) (by omega) (by omega) (by omega) (by omega) (by omega)
    have hb0 := bUf_iff (T := s_T s) (l := l) (v := v) h8 hl hm0 hml hvl
    refine G_Md_firsts_36 ?_
    rw [e2l, z_cl' (show 2 * l < 2 ^ 31 by omega)]
    refine ⟨fun c => absurd c (by rw [x_set_o (by decide)]; exact tS_ge (sM_S h0) hvl), fun _ => S_Md_canReuse (b := 0) hS1 (by omega) (by omega) (by omega) (fun p => ?_) (fun p => ?_)⟩
    · have hb := hb1.mp p
      rw [e4] at hb
      refine G_Md_firsts_53 ⟨fun c => absurd c n_10, fun _ => ?_⟩
      rw [e2l, z_cl' (show 2 * l < 2 ^ 31 by omega)]
      refine ⟨z_in (by omega) (by decide), fun w1 ew1 => ?_⟩
      rw [x_set_set] at ew1
      have hS2 : tS w1 (tReu (s_T s) l 0 v) := M_reuse (sM_S h0) hl hm0 hvl (hb0.mpr hb) (by rw [z_cl' (show 2 * l + 0 < 2 ^ 31 by omega)]; exact ew1)
      have hr1 : mRd s w1 := by rw [ew1]; exact mRd_ki h0.2.2.2.1 (Or.inr rfl)
      refine S_Md_areSo hS2 hr1 ⟨h0.1.2.2.1, h0.1.2.2.2⟩ (fun p => ?_) (fun p => ?_)
      · refine G_Md_firsts_71 ⟨fun c => absurd c n_10, fun _ => ?_⟩
        rw [ew1] at hS2
        rw [z_shl v (by omega), z_mk_or (p := fFi s l) (by unfold fFi; rw [hb, p]; rfl), nI_1, ew1]
        exact ih (v + 1) _ (by omega) ⟨_, hS2, Or.inr ⟨v, rfl⟩⟩
      · refine G_Md_firsts_71 ⟨fun _ => ?_, fun c => absurd rfl c⟩
        rw [ew1] at hS2
        rw [z_or0, z_mk_no (p := fFi s l) (fun q => by unfold fFi at q; rw [Bool.and_eq_true] at q; exact p q.2), nI_1, ew1]
        exact ih (v + 1) _ (by omega) ⟨_, hS2, Or.inr ⟨v, rfl⟩⟩
    · have hb := fun q => p (hb1.mpr q)
      rw [e4] at hb
      refine G_Md_firsts_53 ⟨fun _ => ?_, fun c => absurd rfl c⟩
      rw [z_mk_no (p := fFi s l) (fun q => by unfold fFi at q; rw [Bool.and_eq_true] at q; exact hb q.1), nI_1]
      exact ih (v + 1) x (by omega) ⟨T1, hS1, hT1⟩
theorem O_firsts (s : xS) (x : Int32) : oB m_Vp_firsts [xA 6 1, xI x, xU, xU] m_Md_firsts [xA 7 2, xI x, xU, xU, xU] s := by
  by_cases hp : pL (s_T s) x
  · obtain ⟨l, hl, rfl⟩ := hp
    by_cases hm0 : 0 < tm (s_T s) l
    · refine ⟨(nI (mFi s l)), s, fun w h => ?_, fun w h => ?_⟩
      · refine G_Vp_firsts_0 (T := s_T s) ⟨fun _ => ⟨sC_R h, fun _ => S_Tr_becomeLike (by decide) (by decide) (by decide) (sC_R h) (fun w1 hR1 hf1 => ?_), fun c => absurd ⟨l, 0, rfl, rfl, hl, hm0⟩ c⟩, fun c => absurd (tR_lt (sC_R h) hl) c⟩
        refine G_Vp_firsts_39 ?_
        exact L_Vp_firsts h hl hm0 (fun w' h' f' => ⟨rfl, h', f'⟩) (tn (s_T s)) 0 w1 (Nat.zero_add _) ⟨_, hR1, Or.inl rfl⟩ hf1
      · have h8 := s_n8 h.1
        have hml := tS_m2 (sM_S h) hl
        have e2l : (2 : Int32) * nI l = nI (2 * l) := pk_mul 2 l
        have := L_Md_firsts (d := 2) (Q := fun a w' => a = xI (nI (mFi s l)) ∧ sM s w' ∧ fM w w') h hl hm0 (mE h) (tn (s_T s)) 0 (w 74 (2 * l)) (Nat.zero_add _) ⟨s_T s, by rw [x_set_id rfl]; exact sM_S h, Or.inl rfl⟩
        rw [x_set_id rfl] at this
        refine G_Md_firsts_0 ⟨fun _ => ⟨z_in (by omega) (by decide), ?_⟩, fun c => absurd (tS_lt (sM_S h) hl) c⟩
        rw [tM_m (sM_S h) hl, e2l, z_cl' (by omega)]
        exact ⟨fun c => absurd ((z_eq (b := 0) (by omega) (by decide)).mp c) (by omega), fun _ => ⟨z_in (by omega) (by decide), this⟩⟩
    · refine ⟨(-3), s, fun w h => ?_, fun w h => ?_⟩
      · have h8 := s_n8 h.1
        refine G_Vp_firsts_0 (T := s_T s) ⟨fun _ => ⟨sC_R h, fun c => ?_, fun _ => cE h⟩, fun c => absurd (tR_lt (sC_R h) hl) c⟩
        obtain ⟨a, b, e1, e2, ha, hb⟩ := c
        have := (z_eq (by omega) (by omega)).mp e1
        subst this
        omega
      · have h8 := s_n8 h.1
        refine G_Md_firsts_0 ⟨fun _ => ⟨z_in (by omega) (by decide), ?_⟩, fun c => absurd (tS_lt (sM_S h) hl) c⟩
        rw [tM_m (sM_S h) hl, show tm (s_T s) l = 0 by omega]
        exact ⟨fun _ => mE h, fun c => absurd rfl c⟩
  · exact ⟨(-1), s, fun w h => G_Vp_firsts_0 (T := s_T s) ⟨fun c => absurd ((pL_C h).mp c) hp, fun _ => cE h⟩, fun w h => G_Md_firsts_0 ⟨fun c => absurd ((pL_M h).mp c) hp, fun _ => mE h⟩⟩

