/-! LEAVES: methods without loops and calls -/
def p_rg (v : Int32) (a b : Int) : Prop := a ≤ v.toInt ∧ v.toInt ≤ b
def p_wi (v a b : Int32) : Prop := a.toInt ≤ v.toInt ∧ v.toInt ≤ b.toInt
def p_lt (v n : Int32) : Prop := 0 ≤ v.toInt ∧ v.toInt < n.toInt
def p_in (m v : Int32) : Prop := (m >>> (v &&& 31)) &&& 1 = 1
/-- n cells from i on are there, of s -/
def p_hc (s i n : Int32) : Prop := 0 ≤ n.toInt ∧ 0 ≤ i.toInt ∧ n.toInt ≤ s.toInt ∧ i.toInt ≤ (s - n).toInt
theorem e_l0 : (0 : Int32).toInt = 0 := rfl
theorem e_l1 : (1 : Int32).toInt = 1 := rfl
theorem e_l2 : (2 : Int32).toInt = 2 := rfl
theorem e_l3 : (3 : Int32).toInt = 3 := rfl
theorem e_l4 : (4 : Int32).toInt = 4 := rfl
theorem e_l8 : (8 : Int32).toInt = 8 := rfl
theorem e_l10 : (10 : Int32).toInt = 10 := rfl
theorem e_l17 : (17 : Int32).toInt = 17 := rfl
theorem e_l20 : (20 : Int32).toInt = 20 := rfl
theorem e_l60 : (60 : Int32).toInt = 60 := rfl
theorem G_Vp_isSheet_0 {d : Nat} {x0 : Int32} {w : xWd} {Q : xMV → xWd → Prop} (h : ((x0 < 0 → Q (xI 0) w) ∧ (¬ (x0 < 0) → ((4 ≤ x0 → Q (xI 0) w) ∧ (¬ (4 ≤ x0) → Q (xI 1) w))))) : xWp d m_Vp_isSheet 0 [xI x0] [] w Q := by
  refine x_goN 2 (pc' := if x0 < 0 then 13 else 4) (ls' := [xI x0]) (st' := []) (w' := w) rfl ?_
  refine x_br (fun c1 => ?_) (fun c1 => ?_)
  · skip
    refine x_goN 1 (pc' := 14) (ls' := [xI x0]) (st' := [xI 0]) (w' := w) rfl ?_
    exact x_ret (P := (0 : Int32) = 0 ∨ (0 : Int32) = 1) rfl (by decide) (h.1 c1)
  · skip
    refine x_goN 3 (pc' := if 4 ≤ x0 then 13 else 9) (ls' := [xI x0]) (st' := []) (w' := w) rfl ?_
    refine x_br (fun c2 => ?_) (fun c2 => ?_)
    · skip
      refine x_goN 1 (pc' := 14) (ls' := [xI x0]) (st' := [xI 0]) (w' := w) rfl ?_
      exact x_ret (P := (0 : Int32) = 0 ∨ (0 : Int32) = 1) rfl (by decide) ((h.2 c1).1 c2)
    · skip
      refine x_goN 2 (pc' := 14) (ls' := [xI x0]) (st' := [xI 1]) (w' := w) rfl ?_
      exact x_ret (P := (1 : Int32) = 0 ∨ (1 : Int32) = 1) rfl (by decide) ((h.2 c1).2 c2)
theorem S_Vp_isSheet {d : Nat} {v : Int32} {w : xWd} {Q : xMV → xWd → Prop} (h1 : p_rg v 0 3 → Q (xI 1) w) (h2 : ¬ p_rg v 0 3 → Q (xI 0) w) : xWp d m_Vp_isSheet 0 [xI v] [] w Q := by
  refine G_Vp_isSheet_0 ⟨fun c => ?_, fun c => ⟨fun c2 => ?_, fun c2 => ?_⟩⟩ <;> simp only [fa_lt, fa_le, e_l0, e_l4] at *
  · exact h2 (fun q => by unfold p_rg at q; omega)
  · exact h2 (fun q => by unfold p_rg at q; omega)
  · exact h1 (by unfold p_rg; omega)
theorem G_Vp_isLane_0 {d : Nat} {x0 : Int32} {w : xWd} {Q : xMV → xWd → Prop} (h : ((x0 < 0 → Q (xI 0) w) ∧ (¬ (x0 < 0) → ((2 < x0 → Q (xI 0) w) ∧ (¬ (2 < x0) → Q (xI 1) w))))) : xWp d m_Vp_isLane 0 [xI x0] [] w Q := by
  refine x_goN 2 (pc' := if x0 < 0 then 13 else 4) (ls' := [xI x0]) (st' := []) (w' := w) rfl ?_
  refine x_br (fun c1 => ?_) (fun c1 => ?_)
  · skip
    refine x_goN 1 (pc' := 14) (ls' := [xI x0]) (st' := [xI 0]) (w' := w) rfl ?_
    exact x_ret (P := (0 : Int32) = 0 ∨ (0 : Int32) = 1) rfl (by decide) (h.1 c1)
  · skip
    refine x_goN 3 (pc' := if 2 < x0 then 13 else 9) (ls' := [xI x0]) (st' := []) (w' := w) rfl ?_
    refine x_br (fun c2 => ?_) (fun c2 => ?_)
    · skip
      refine x_goN 1 (pc' := 14) (ls' := [xI x0]) (st' := [xI 0]) (w' := w) rfl ?_
      exact x_ret (P := (0 : Int32) = 0 ∨ (0 : Int32) = 1) rfl (by decide) ((h.2 c1).1 c2)
    · skip
      refine x_goN 2 (pc' := 14) (ls' := [xI x0]) (st' := [xI 1]) (w' := w) rfl ?_
      exact x_ret (P := (1 : Int32) = 0 ∨ (1 : Int32) = 1) rfl (by decide) ((h.2 c1).2 c2)
theorem S_Vp_isLane {d : Nat} {v : Int32} {w : xWd} {Q : xMV → xWd → Prop} (h1 : p_rg v 0 2 → Q (xI 1) w) (h2 : ¬ p_rg v 0 2 → Q (xI 0) w) : xWp d m_Vp_isLane 0 [xI v] [] w Q := by
  refine G_Vp_isLane_0 ⟨fun c => ?_, fun c => ⟨fun c2 => ?_, fun c2 => ?_⟩⟩ <;> simp only [fa_lt, fa_le, e_l0, e_l2] at *
  · exact h2 (fun q => by unfold p_rg at q; omega)
  · exact h2 (fun q => by unfold p_rg at q; omega)
  · exact h1 (by unfold p_rg; omega)
theorem G_Vp_isKind_0 {d : Nat} {x0 : Int32} {w : xWd} {Q : xMV → xWd → Prop} (h : ((x0 < 0 → Q (xI 0) w) ∧ (¬ (x0 < 0) → ((2 < x0 → Q (xI 0) w) ∧ (¬ (2 < x0) → Q (xI 1) w))))) : xWp d m_Vp_isKind 0 [xI x0] [] w Q := by
  refine x_goN 2 (pc' := if x0 < 0 then 13 else 4) (ls' := [xI x0]) (st' := []) (w' := w) rfl ?_
  refine x_br (fun c1 => ?_) (fun c1 => ?_)
  · skip
    refine x_goN 1 (pc' := 14) (ls' := [xI x0]) (st' := [xI 0]) (w' := w) rfl ?_
    exact x_ret (P := (0 : Int32) = 0 ∨ (0 : Int32) = 1) rfl (by decide) (h.1 c1)
  · skip
    refine x_goN 3 (pc' := if 2 < x0 then 13 else 9) (ls' := [xI x0]) (st' := []) (w' := w) rfl ?_
    refine x_br (fun c2 => ?_) (fun c2 => ?_)
    · skip
      refine x_goN 1 (pc' := 14) (ls' := [xI x0]) (st' := [xI 0]) (w' := w) rfl ?_
      exact x_ret (P := (0 : Int32) = 0 ∨ (0 : Int32) = 1) rfl (by decide) ((h.2 c1).1 c2)
    · skip
      refine x_goN 2 (pc' := 14) (ls' := [xI x0]) (st' := [xI 1]) (w' := w) rfl ?_
      exact x_ret (P := (1 : Int32) = 0 ∨ (1 : Int32) = 1) rfl (by decide) ((h.2 c1).2 c2)
theorem S_Vp_isKind {d : Nat} {v : Int32} {w : xWd} {Q : xMV → xWd → Prop} (h1 : p_rg v 0 2 → Q (xI 1) w) (h2 : ¬ p_rg v 0 2 → Q (xI 0) w) : xWp d m_Vp_isKind 0 [xI v] [] w Q := by
  refine G_Vp_isKind_0 ⟨fun c => ?_, fun c => ⟨fun c2 => ?_, fun c2 => ?_⟩⟩ <;> simp only [fa_lt, fa_le, e_l0, e_l2] at *
  · exact h2 (fun q => by unfold p_rg at q; omega)
  · exact h2 (fun q => by unfold p_rg at q; omega)
  · exact h1 (by unfold p_rg; omega)
theorem G_Md_within_0 {d : Nat} {x0 : Int32} {x1 : Int32} {x2 : Int32} {w : xWd} {Q : xMV → xWd → Prop} (h : ((x0 < x1 → Q (xI 0) w) ∧ (¬ (x0 < x1) → ((x2 < x0 → Q (xI 0) w) ∧ (¬ (x2 < x0) → Q (xI 1) w))))) : xWp d m_Md_within 0 [xI x0, xI x1, xI x2] [] w Q := by
  refine x_goN 3 (pc' := if x0 < x1 then 14 else 5) (ls' := [xI x0, xI x1, xI x2]) (st' := []) (w' := w) rfl ?_
  refine x_br (fun c1 => ?_) (fun c1 => ?_)
  · skip
    refine x_goN 1 (pc' := 15) (ls' := [xI x0, xI x1, xI x2]) (st' := [xI 0]) (w' := w) rfl ?_
    exact x_ret (P := (0 : Int32) = 0 ∨ (0 : Int32) = 1) rfl (by decide) (h.1 c1)
  · skip
    refine x_goN 3 (pc' := if x2 < x0 then 14 else 10) (ls' := [xI x0, xI x1, xI x2]) (st' := []) (w' := w) rfl ?_
    refine x_br (fun c2 => ?_) (fun c2 => ?_)
    · skip
      refine x_goN 1 (pc' := 15) (ls' := [xI x0, xI x1, xI x2]) (st' := [xI 0]) (w' := w) rfl ?_
      exact x_ret (P := (0 : Int32) = 0 ∨ (0 : Int32) = 1) rfl (by decide) ((h.2 c1).1 c2)
    · skip
      refine x_goN 2 (pc' := 15) (ls' := [xI x0, xI x1, xI x2]) (st' := [xI 1]) (w' := w) rfl ?_
      exact x_ret (P := (1 : Int32) = 0 ∨ (1 : Int32) = 1) rfl (by decide) ((h.2 c1).2 c2)
theorem S_Md_within {d : Nat} {v a b : Int32} {w : xWd} {Q : xMV → xWd → Prop} (h1 : p_wi v a b → Q (xI 1) w) (h2 : ¬ p_wi v a b → Q (xI 0) w) : xWp d m_Md_within 0 [xI v, xI a, xI b] [] w Q := by
  refine G_Md_within_0 ⟨fun c => ?_, fun c => ⟨fun c2 => ?_, fun c2 => ?_⟩⟩ <;> simp only [fa_lt, fa_le] at *
  · exact h2 (fun q => by unfold p_wi at q; omega)
  · exact h2 (fun q => by unfold p_wi at q; omega)
  · exact h1 (by unfold p_wi; omega)
theorem G_Md_isSheet_0 {d : Nat} {x0 : Int32} {w : xWd} {Q : xMV → xWd → Prop} (h : ((p_wi x0 0 3 → Q (xI 1) w) ∧ (¬ (p_wi x0 0 3) → Q (xI 0) w))) : xWp (d + 1) m_Md_isSheet 0 [xI x0] [] w Q := by
  refine x_goN 3 (pc' := 3) (ls' := [xI x0]) (st' := [xI 3, xI 0, xI x0]) (w' := w) rfl ?_
  refine x_call (y := m_Md_within) (as := [xI x0, xI 0, xI 3]) (rst := []) rfl [xI x0, xI 0, xI 3] rfl ?_
  refine S_Md_within (fun c1 => ?_) (fun c1 => ?_)
  · skip
    exact x_ret (P := (1 : Int32) = 0 ∨ (1 : Int32) = 1) rfl (by decide) (h.1 c1)
  · skip
    exact x_ret (P := (0 : Int32) = 0 ∨ (0 : Int32) = 1) rfl (by decide) (h.2 c1)
theorem S_Md_isSheet {d : Nat} {v : Int32} {w : xWd} {Q : xMV → xWd → Prop} (h1 : p_rg v 0 3 → Q (xI 1) w) (h2 : ¬ p_rg v 0 3 → Q (xI 0) w) : xWp (d + 1) m_Md_isSheet 0 [xI v] [] w Q := by
  refine G_Md_isSheet_0 ⟨fun c => h1 ?_, fun c => h2 (fun q => c ?_)⟩
  · unfold p_wi at c; unfold p_rg; rw [e_l0, e_l3] at c; exact c
  · unfold p_rg at q; unfold p_wi; rw [e_l0, e_l3]; exact q
theorem G_Md_isSort_0 {d : Nat} {x0 : Int32} {w : xWd} {Q : xMV → xWd → Prop} (h : ((p_wi x0 0 2 → Q (xI 1) w) ∧ (¬ (p_wi x0 0 2) → Q (xI 0) w))) : xWp (d + 1) m_Md_isSort 0 [xI x0] [] w Q := by
  refine x_goN 3 (pc' := 3) (ls' := [xI x0]) (st' := [xI 2, xI 0, xI x0]) (w' := w) rfl ?_
  refine x_call (y := m_Md_within) (as := [xI x0, xI 0, xI 2]) (rst := []) rfl [xI x0, xI 0, xI 2] rfl ?_
  refine S_Md_within (fun c1 => ?_) (fun c1 => ?_)
  · skip
    exact x_ret (P := (1 : Int32) = 0 ∨ (1 : Int32) = 1) rfl (by decide) (h.1 c1)
  · skip
    exact x_ret (P := (0 : Int32) = 0 ∨ (0 : Int32) = 1) rfl (by decide) (h.2 c1)
theorem S_Md_isSort {d : Nat} {v : Int32} {w : xWd} {Q : xMV → xWd → Prop} (h1 : p_rg v 0 2 → Q (xI 1) w) (h2 : ¬ p_rg v 0 2 → Q (xI 0) w) : xWp (d + 1) m_Md_isSort 0 [xI v] [] w Q := by
  refine G_Md_isSort_0 ⟨fun c => h1 ?_, fun c => h2 (fun q => c ?_)⟩
  · unfold p_wi at c; unfold p_rg; rw [e_l0, e_l2] at c; exact c
  · unfold p_rg at q; unfold p_wi; rw [e_l0, e_l2]; exact q
theorem G_Vp_inSet_0 {d : Nat} {x0 : Int32} {x1 : Int32} {w : xWd} {Q : xMV → xWd → Prop} (h : (((x0 >>> (x1 &&& 31)) &&& 1 = 1 → Q (xI 1) w) ∧ (¬ ((x0 >>> (x1 &&& 31)) &&& 1 = 1) → Q (xI 0) w))) : xWp d m_Vp_inSet 0 [xI x0, xI x1] [] w Q := by
  refine x_goN 7 (pc' := if (x0 >>> (x1 &&& 31)) &&& 1 = 1 then 9 else 13) (ls' := [xI x0, xI x1]) (st' := []) (w' := w) rfl ?_
  refine x_br (fun c1 => ?_) (fun c1 => ?_)
  · skip
    refine x_goN 2 (pc' := 14) (ls' := [xI x0, xI x1]) (st' := [xI 1]) (w' := w) rfl ?_
    exact x_ret (P := (1 : Int32) = 0 ∨ (1 : Int32) = 1) rfl (by decide) (h.1 c1)
  · skip
    refine x_goN 1 (pc' := 14) (ls' := [xI x0, xI x1]) (st' := [xI 0]) (w' := w) rfl ?_
    exact x_ret (P := (0 : Int32) = 0 ∨ (0 : Int32) = 1) rfl (by decide) (h.2 c1)
theorem S_Vp_inSet {d : Nat} {m v : Int32} {w : xWd} {Q : xMV → xWd → Prop} (h1 : p_in m v → Q (xI 1) w) (h2 : ¬ p_in m v → Q (xI 0) w) : xWp d m_Vp_inSet 0 [xI m, xI v] [] w Q := G_Vp_inSet_0 ⟨h1, h2⟩
theorem G_Md_isOf_0 {d : Nat} {x0 : Int32} {x1 : Int32} {w : xWd} {Q : xMV → xWd → Prop} (h : (((x0 >>> (x1 &&& 31)) &&& 1 = 1 → Q (xI 1) w) ∧ (¬ ((x0 >>> (x1 &&& 31)) &&& 1 = 1) → Q (xI 0) w))) : xWp d m_Md_isOf 0 [xI x0, xI x1] [] w Q := by
  refine x_goN 7 (pc' := if (x0 >>> (x1 &&& 31)) &&& 1 = 1 then 9 else 13) (ls' := [xI x0, xI x1]) (st' := []) (w' := w) rfl ?_
  refine x_br (fun c1 => ?_) (fun c1 => ?_)
  · skip
    refine x_goN 2 (pc' := 14) (ls' := [xI x0, xI x1]) (st' := [xI 1]) (w' := w) rfl ?_
    exact x_ret (P := (1 : Int32) = 0 ∨ (1 : Int32) = 1) rfl (by decide) (h.1 c1)
  · skip
    refine x_goN 1 (pc' := 14) (ls' := [xI x0, xI x1]) (st' := [xI 0]) (w' := w) rfl ?_
    exact x_ret (P := (0 : Int32) = 0 ∨ (0 : Int32) = 1) rfl (by decide) (h.2 c1)
theorem S_Md_isOf {d : Nat} {m v : Int32} {w : xWd} {Q : xMV → xWd → Prop} (h1 : p_in m v → Q (xI 1) w) (h2 : ¬ p_in m v → Q (xI 0) w) : xWp d m_Md_isOf 0 [xI m, xI v] [] w Q := G_Md_isOf_0 ⟨h1, h2⟩
theorem G_Tr_isLine_0 {d : Nat} {a0 : Nat} {x1 : Int32} {w : xWd} {Q : xMV → xWd → Prop} (h : ((x1 < 0 → Q (xI 0) w) ∧ (¬ (x1 < 0) → ((w a0 8 ≤ x1 → Q (xI 0) w) ∧ (¬ (w a0 8 ≤ x1) → Q (xI 1) w))))) : xWp d m_Tr_isLine 0 [xA 5 a0, xI x1] [] w Q := by
  refine x_goN 2 (pc' := if x1 < 0 then 16 else 4) (ls' := [xA 5 a0, xI x1]) (st' := []) (w' := w) rfl ?_
  refine x_br (fun c1 => ?_) (fun c1 => ?_)
  · skip
    refine x_goN 1 (pc' := 17) (ls' := [xA 5 a0, xI x1]) (st' := [xI 0]) (w' := w) rfl ?_
    exact x_ret (P := (0 : Int32) = 0 ∨ (0 : Int32) = 1) rfl (by decide) (h.1 c1)
  · skip
    refine x_goN 4 (pc' := if w a0 8 ≤ x1 then 16 else 12) (ls' := [xA 5 a0, xI x1]) (st' := []) (w' := w) rfl ?_
    refine x_br (fun c2 => ?_) (fun c2 => ?_)
    · skip
      refine x_goN 1 (pc' := 17) (ls' := [xA 5 a0, xI x1]) (st' := [xI 0]) (w' := w) rfl ?_
      exact x_ret (P := (0 : Int32) = 0 ∨ (0 : Int32) = 1) rfl (by decide) ((h.2 c1).1 c2)
    · skip
      refine x_goN 2 (pc' := 17) (ls' := [xA 5 a0, xI x1]) (st' := [xI 1]) (w' := w) rfl ?_
      exact x_ret (P := (1 : Int32) = 0 ∨ (1 : Int32) = 1) rfl (by decide) ((h.2 c1).2 c2)
theorem S_Tr_isLine {d t : Nat} {v : Int32} {w : xWd} {Q : xMV → xWd → Prop} (h1 : p_lt v (w t 8) → Q (xI 1) w) (h2 : ¬ p_lt v (w t 8) → Q (xI 0) w) : xWp d m_Tr_isLine 0 [xA 5 t, xI v] [] w Q := by
  refine G_Tr_isLine_0 ⟨fun c => ?_, fun c => ⟨fun c2 => ?_, fun c2 => ?_⟩⟩ <;> simp only [fa_lt, fa_le, e_l0] at *
  · exact h2 (fun q => by unfold p_lt at q; omega)
  · exact h2 (fun q => by unfold p_lt at q; omega)
  · exact h1 (by unfold p_lt; omega)
theorem G_Md_isLine_0 {d : Nat} {x1 : Int32} {w : xWd} {Q : xMV → xWd → Prop} (h : ((x1 < 0 → Q (xI 0) w) ∧ (¬ (x1 < 0) → ((w 2 5 ≤ x1 → Q (xI 0) w) ∧ (¬ (w 2 5 ≤ x1) → Q (xI 1) w))))) : xWp d m_Md_isLine 0 [xA 7 2, xI x1] [] w Q := by
  refine x_goN 2 (pc' := if x1 < 0 then 16 else 4) (ls' := [xA 7 2, xI x1]) (st' := []) (w' := w) rfl ?_
  refine x_br (fun c1 => ?_) (fun c1 => ?_)
  · skip
    refine x_goN 1 (pc' := 17) (ls' := [xA 7 2, xI x1]) (st' := [xI 0]) (w' := w) rfl ?_
    exact x_ret (P := (0 : Int32) = 0 ∨ (0 : Int32) = 1) rfl (by decide) (h.1 c1)
  · skip
    refine x_goN 4 (pc' := if w 2 5 ≤ x1 then 16 else 12) (ls' := [xA 7 2, xI x1]) (st' := []) (w' := w) rfl ?_
    refine x_br (fun c2 => ?_) (fun c2 => ?_)
    · skip
      refine x_goN 1 (pc' := 17) (ls' := [xA 7 2, xI x1]) (st' := [xI 0]) (w' := w) rfl ?_
      exact x_ret (P := (0 : Int32) = 0 ∨ (0 : Int32) = 1) rfl (by decide) ((h.2 c1).1 c2)
    · skip
      refine x_goN 2 (pc' := 17) (ls' := [xA 7 2, xI x1]) (st' := [xI 1]) (w' := w) rfl ?_
      exact x_ret (P := (1 : Int32) = 0 ∨ (1 : Int32) = 1) rfl (by decide) ((h.2 c1).2 c2)
theorem S_Md_isLine {d : Nat} {v : Int32} {w : xWd} {Q : xMV → xWd → Prop} (h1 : p_lt v (w 2 5) → Q (xI 1) w) (h2 : ¬ p_lt v (w 2 5) → Q (xI 0) w) : xWp d m_Md_isLine 0 [xA 7 2, xI v] [] w Q := by
  refine G_Md_isLine_0 ⟨fun c => ?_, fun c => ⟨fun c2 => ?_, fun c2 => ?_⟩⟩ <;> simp only [fa_lt, fa_le, e_l0] at *
  · exact h2 (fun q => by unfold p_lt at q; omega)
  · exact h2 (fun q => by unfold p_lt at q; omega)
  · exact h1 (by unfold p_lt; omega)
theorem G_Sh_hasCells_0 {d : Nat} {a0 : Nat} {x1 : Int32} {x2 : Int32} {w : xWd} {Q : xMV → xWd → Prop} (h : ((x2 < 0 → Q (xI 0) w) ∧ (¬ (x2 < 0) → ((x1 < 0 → Q (xI 0) w) ∧ (¬ (x1 < 0) → ((w a0 3 < x2 → Q (xI 0) w) ∧ (¬ (w a0 3 < x2) → (((w a0 3) - x2 < x1 → Q (xI 0) w) ∧ (¬ ((w a0 3) - x2 < x1) → Q (xI 1) w))))))))) : xWp d m_Sh_hasCells 0 [xA 3 a0, xI x1, xI x2] [] w Q := by
  refine x_goN 2 (pc' := if x2 < 0 then 30 else 4) (ls' := [xA 3 a0, xI x1, xI x2]) (st' := []) (w' := w) rfl ?_
  refine x_br (fun c1 => ?_) (fun c1 => ?_)
  · skip
    refine x_goN 1 (pc' := 31) (ls' := [xA 3 a0, xI x1, xI x2]) (st' := [xI 0]) (w' := w) rfl ?_
    exact x_ret (P := (0 : Int32) = 0 ∨ (0 : Int32) = 1) rfl (by decide) (h.1 c1)
  · skip
    refine x_goN 2 (pc' := if x1 < 0 then 30 else 8) (ls' := [xA 3 a0, xI x1, xI x2]) (st' := []) (w' := w) rfl ?_
    refine x_br (fun c2 => ?_) (fun c2 => ?_)
    · skip
      refine x_goN 1 (pc' := 31) (ls' := [xA 3 a0, xI x1, xI x2]) (st' := [xI 0]) (w' := w) rfl ?_
      exact x_ret (P := (0 : Int32) = 0 ∨ (0 : Int32) = 1) rfl (by decide) ((h.2 c1).1 c2)
    · skip
      refine x_goN 4 (pc' := if w a0 3 < x2 then 30 else 16) (ls' := [xA 3 a0, xI x1, xI x2]) (st' := []) (w' := w) rfl ?_
      refine x_br (fun c3 => ?_) (fun c3 => ?_)
      · skip
        refine x_goN 1 (pc' := 31) (ls' := [xA 3 a0, xI x1, xI x2]) (st' := [xI 0]) (w' := w) rfl ?_
        exact x_ret (P := (0 : Int32) = 0 ∨ (0 : Int32) = 1) rfl (by decide) (((h.2 c1).2 c2).1 c3)
      · skip
        refine x_goN 6 (pc' := if (w a0 3) - x2 < x1 then 30 else 26) (ls' := [xA 3 a0, xI x1, xI x2]) (st' := []) (w' := w) rfl ?_
        refine x_br (fun c4 => ?_) (fun c4 => ?_)
        · skip
          refine x_goN 1 (pc' := 31) (ls' := [xA 3 a0, xI x1, xI x2]) (st' := [xI 0]) (w' := w) rfl ?_
          exact x_ret (P := (0 : Int32) = 0 ∨ (0 : Int32) = 1) rfl (by decide) ((((h.2 c1).2 c2).2 c3).1 c4)
        · skip
          refine x_goN 2 (pc' := 31) (ls' := [xA 3 a0, xI x1, xI x2]) (st' := [xI 1]) (w' := w) rfl ?_
          exact x_ret (P := (1 : Int32) = 0 ∨ (1 : Int32) = 1) rfl (by decide) ((((h.2 c1).2 c2).2 c3).2 c4)
theorem S_Sh_hasCells {d t : Nat} {i n : Int32} {w : xWd} {Q : xMV → xWd → Prop} (h1 : p_hc (w t 3) i n → Q (xI 1) w) (h2 : ¬ p_hc (w t 3) i n → Q (xI 0) w) : xWp d m_Sh_hasCells 0 [xA 3 t, xI i, xI n] [] w Q := by
  refine G_Sh_hasCells_0 ⟨fun c => ?_, fun c => ⟨fun c2 => ?_, fun c2 => ⟨fun c3 => ?_, fun c3 => ⟨fun c4 => ?_, fun c4 => ?_⟩⟩⟩⟩ <;> simp only [fa_lt, fa_le, e_l0] at *
  · exact h2 (fun q => by unfold p_hc at q; omega)
  · exact h2 (fun q => by unfold p_hc at q; omega)
  · exact h2 (fun q => by unfold p_hc at q; omega)
  · exact h2 (fun q => by unfold p_hc at q; omega)
  · exact h1 (by unfold p_hc; omega)
theorem G_Vp_faulty_0 {d : Nat} {x1 : Int32} {w : xWd} {Q : xMV → xWd → Prop} (h : (∀ w1 : xWd, w1 = x_set w 1 8 x1 → Q (xI ((-10) - x1)) w1)) : xWp d m_Vp_faulty 0 [xA 6 1, xI x1] [] w Q := by
  refine x_goN 2 (pc' := 2) (ls' := [xA 6 1, xI x1]) (st' := [xI x1, xA 6 1]) (w' := w) rfl ?_
  refine x_goW (pc' := 5) (ls' := [xA 6 1, xI x1]) (st' := []) (w' := x_set w 1 8 x1) rfl (fun w1 ew1 => ?_)
  refine x_goN 3 (pc' := 9) (ls' := [xA 6 1, xI x1]) (st' := [xI ((-10) - x1)]) (w' := w1) rfl ?_
  exact x_ret (P := True) rfl trivial (h w1 ew1)
theorem S_Vp_faulty {d : Nat} {v : Int32} {w : xWd} {Q : xMV → xWd → Prop} (h : ∀ w1, w1 = x_set w 1 8 v → Q (xI ((-10) - v)) w1) : xWp d m_Vp_faulty 0 [xA 6 1, xI v] [] w Q := G_Vp_faulty_0 h
theorem G_Md_fails_0 {d : Nat} {x1 : Int32} {w : xWd} {Q : xMV → xWd → Prop} (h : (∀ w1 : xWd, w1 = x_set w 2 0 x1 → Q (xI ((-10) - x1)) w1)) : xWp d m_Md_fails 0 [xA 7 2, xI x1] [] w Q := by
  refine x_goN 2 (pc' := 2) (ls' := [xA 7 2, xI x1]) (st' := [xI x1, xA 7 2]) (w' := w) rfl ?_
  refine x_goW (pc' := 5) (ls' := [xA 7 2, xI x1]) (st' := []) (w' := x_set w 2 0 x1) rfl (fun w1 ew1 => ?_)
  refine x_goN 3 (pc' := 9) (ls' := [xA 7 2, xI x1]) (st' := [xI ((-10) - x1)]) (w' := w1) rfl ?_
  exact x_ret (P := True) rfl trivial (h w1 ew1)
theorem S_Md_fails {d : Nat} {v : Int32} {w : xWd} {Q : xMV → xWd → Prop} (h : ∀ w1, w1 = x_set w 2 0 v → Q (xI ((-10) - v)) w1) : xWp d m_Md_fails 0 [xA 7 2, xI v] [] w Q := G_Md_fails_0 h
theorem G_Md_lost_0 {d : Nat} {x1 : Int32} {w : xWd} {Q : xMV → xWd → Prop} (h : (∀ w1 : xWd, w1 = x_set w 2 0 x1 → Q (xJ (-9223372036854775808)) w1)) : xWp d m_Md_lost 0 [xA 7 2, xI x1] [] w Q := by
  refine x_goN 2 (pc' := 2) (ls' := [xA 7 2, xI x1]) (st' := [xI x1, xA 7 2]) (w' := w) rfl ?_
  refine x_goW (pc' := 5) (ls' := [xA 7 2, xI x1]) (st' := []) (w' := x_set w 2 0 x1) rfl (fun w1 ew1 => ?_)
  refine x_goN 1 (pc' := 8) (ls' := [xA 7 2, xI x1]) (st' := [xJ (-9223372036854775808)]) (w' := w1) rfl ?_
  exact x_ret (P := True) rfl trivial (h w1 ew1)
theorem S_Md_lost {d : Nat} {v : Int32} {w : xWd} {Q : xMV → xWd → Prop} (h : ∀ w1, w1 = x_set w 2 0 v → Q (xJ (-9223372036854775808)) w1) : xWp d m_Md_lost 0 [xA 7 2, xI v] [] w Q := G_Md_lost_0 h
theorem G_Vp_leaveInTrace_0 {d : Nat} {x1 : Int32} {w : xWd} {Q : xMV → xWd → Prop} (h : (∀ w1 : xWd, w1 = x_set w 1 7 ((31 * (w 1 7)) + x1) → Q xU w1)) : xWp d m_Vp_leaveInTrace 0 [xA 6 1, xI x1] [] w Q := by
  refine x_goN 7 (pc' := 10) (ls' := [xA 6 1, xI x1]) (st' := [xI ((31 * (w 1 7)) + x1), xA 6 1]) (w' := w) rfl ?_
  refine x_goW (pc' := 13) (ls' := [xA 6 1, xI x1]) (st' := []) (w' := x_set w 1 7 ((31 * (w 1 7)) + x1)) rfl (fun w1 ew1 => ?_)
  exact x_ret (P := True) rfl trivial (h w1 ew1)
theorem S_Vp_leaveInTrace {d : Nat} {v : Int32} {w : xWd} {Q : xMV → xWd → Prop} (h : ∀ w1, w1 = x_set w 1 7 (31 * w 1 7 + v) → Q xU w1) : xWp d m_Vp_leaveInTrace 0 [xA 6 1, xI v] [] w Q := G_Vp_leaveInTrace_0 h
theorem G_Md_begins_0 {d : Nat} {x1 : Int32} {w : xWd} {Q : xMV → xWd → Prop} (h : (∀ w1 : xWd, w1 = x_set w 2 1 ((31 * (w 2 1)) + x1) → Q xU w1)) : xWp d m_Md_begins 0 [xA 7 2, xI x1] [] w Q := by
  refine x_goN 7 (pc' := 10) (ls' := [xA 7 2, xI x1]) (st' := [xI ((31 * (w 2 1)) + x1), xA 7 2]) (w' := w) rfl ?_
  refine x_goW (pc' := 13) (ls' := [xA 7 2, xI x1]) (st' := []) (w' := x_set w 2 1 ((31 * (w 2 1)) + x1)) rfl (fun w1 ew1 => ?_)
  exact x_ret (P := True) rfl trivial (h w1 ew1)
theorem S_Md_begins {d : Nat} {v : Int32} {w : xWd} {Q : xMV → xWd → Prop} (h : ∀ w1, w1 = x_set w 2 1 (31 * w 2 1 + v) → Q xU w1) : xWp d m_Md_begins 0 [xA 7 2, xI v] [] w Q := G_Md_begins_0 h
theorem G_Vp_isNumbered_0 {d : Nat} {x0 : Int32} {x1 : Int32} {w : xWd} {Q : xMV → xWd → Prop} (h : ((x0 < 10 → Q (xI 0) w) ∧ (¬ (x0 < 10) → ((10 + x1 ≤ x0 → Q (xI 0) w) ∧ (¬ (10 + x1 ≤ x0) → Q (xI 1) w))))) : xWp d m_Vp_isNumbered 0 [xI x0, xI x1] [] w Q := by
  refine x_goN 3 (pc' := if x0 < 10 then 18 else 6) (ls' := [xI x0, xI x1]) (st' := []) (w' := w) rfl ?_
  refine x_br (fun c1 => ?_) (fun c1 => ?_)
  · skip
    refine x_goN 1 (pc' := 19) (ls' := [xI x0, xI x1]) (st' := [xI 0]) (w' := w) rfl ?_
    exact x_ret (P := (0 : Int32) = 0 ∨ (0 : Int32) = 1) rfl (by decide) (h.1 c1)
  · skip
    refine x_goN 5 (pc' := if 10 + x1 ≤ x0 then 18 else 14) (ls' := [xI x0, xI x1]) (st' := []) (w' := w) rfl ?_
    refine x_br (fun c2 => ?_) (fun c2 => ?_)
    · skip
      refine x_goN 1 (pc' := 19) (ls' := [xI x0, xI x1]) (st' := [xI 0]) (w' := w) rfl ?_
      exact x_ret (P := (0 : Int32) = 0 ∨ (0 : Int32) = 1) rfl (by decide) ((h.2 c1).1 c2)
    · skip
      refine x_goN 2 (pc' := 19) (ls' := [xI x0, xI x1]) (st' := [xI 1]) (w' := w) rfl ?_
      exact x_ret (P := (1 : Int32) = 0 ∨ (1 : Int32) = 1) rfl (by decide) ((h.2 c1).2 c2)
/-- a question's number: 0 .. a, or 10 .. b -/
def p_qn (v : Int32) (a b : Int) : Prop := (0 ≤ v.toInt ∧ v.toInt ≤ a) ∨ (10 ≤ v.toInt ∧ v.toInt ≤ b)
def p_q4 (v : Int32) : Prop := p_qn v 4 17
def p_q2 (v : Int32) : Prop := p_qn v 2 17
def p_q1 (v : Int32) : Prop := p_qn v 1 29
theorem S_Vp_isNumbered {d m : Nat} (hm : m ≤ 100) {v x : Int32} (hx : x = nI m) {w : xWd} {Q : xMV → xWd → Prop} (h1 : 10 ≤ v.toInt ∧ v.toInt < 10 + m → Q (xI 1) w) (h2 : ¬ (10 ≤ v.toInt ∧ v.toInt < 10 + m) → Q (xI 0) w) : xWp d m_Vp_isNumbered 0 [xI v, xI x] [] w Q := by
  have e : (10 + x).toInt = 10 + (m : Int) := by
    rw [hx, show (10 : Int32) + nI m = nI (10 + m) from nI_add 10 m, nI_toInt (by omega)]; omega
  refine G_Vp_isNumbered_0 ⟨fun c => ?_, fun c => ⟨fun c2 => ?_, fun c2 => ?_⟩⟩ <;> simp only [fa_lt, fa_le, e_l10, e] at *
  · exact h2 (fun q => by omega)
  · exact h2 (fun q => by omega)
  · exact h1 (by omega)
theorem G_Vp_isDayQuestion_0 {d : Nat} {x0 : Int32} {w : xWd} {Q : xMV → xWd → Prop} (h : ((x0 < 0 → xWp d m_Vp_isNumbered 0 [xI x0, xI 8] [] w (fun a w' => xWp (d + 1) m_Vp_isDayQuestion 15 [xI x0] (x_pu a []) w' Q)) ∧ (¬ (x0 < 0) → ((x0 ≤ 4 → Q (xI 1) w) ∧ (¬ (x0 ≤ 4) → xWp d m_Vp_isNumbered 0 [xI x0, xI 8] [] w (fun a w' => xWp (d + 1) m_Vp_isDayQuestion 15 [xI x0] (x_pu a []) w' Q)))))) : xWp (d + 1) m_Vp_isDayQuestion 0 [xI x0] [] w Q := by
  refine x_goN 2 (pc' := if x0 < 0 then 9 else 4) (ls' := [xI x0]) (st' := []) (w' := w) rfl ?_
  refine x_br (fun c1 => ?_) (fun c1 => ?_)
  · skip
    refine x_goN 2 (pc' := 12) (ls' := [xI x0]) (st' := [xI 8, xI x0]) (w' := w) rfl ?_
    refine x_call (y := m_Vp_isNumbered) (as := [xI x0, xI 8]) (rst := []) rfl [xI x0, xI 8] rfl ?_
    exact (h.1 c1)
  · skip
    refine x_goN 3 (pc' := if x0 ≤ 4 then 18 else 9) (ls' := [xI x0]) (st' := []) (w' := w) rfl ?_
    refine x_br (fun c2 => ?_) (fun c2 => ?_)
    · skip
      refine x_goN 2 (pc' := 23) (ls' := [xI x0]) (st' := [xI 1]) (w' := w) rfl ?_
      exact x_ret (P := (1 : Int32) = 0 ∨ (1 : Int32) = 1) rfl (by decide) ((h.2 c1).1 c2)
    · skip
      refine x_goN 2 (pc' := 12) (ls' := [xI x0]) (st' := [xI 8, xI x0]) (w' := w) rfl ?_
      refine x_call (y := m_Vp_isNumbered) (as := [xI x0, xI 8]) (rst := []) rfl [xI x0, xI 8] rfl ?_
      exact ((h.2 c1).2 c2)
theorem G_Vp_isDayQuestion_15 {d : Nat} {x0 : Int32} {s0 : Int32} {w : xWd} {Q : xMV → xWd → Prop} (h : ((s0 = 0 → Q (xI 0) w) ∧ (¬ (s0 = 0) → Q (xI 1) w))) : xWp (d + 1) m_Vp_isDayQuestion 15 [xI x0] [xI s0] w Q := by
  refine x_goN 1 (pc' := if s0 = 0 then 22 else 18) (ls' := [xI x0]) (st' := []) (w' := w) rfl ?_
  refine x_br (fun c1 => ?_) (fun c1 => ?_)
  · skip
    refine x_goN 1 (pc' := 23) (ls' := [xI x0]) (st' := [xI 0]) (w' := w) rfl ?_
    exact x_ret (P := (0 : Int32) = 0 ∨ (0 : Int32) = 1) rfl (by decide) (h.1 c1)
  · skip
    refine x_goN 2 (pc' := 23) (ls' := [xI x0]) (st' := [xI 1]) (w' := w) rfl ?_
    exact x_ret (P := (1 : Int32) = 0 ∨ (1 : Int32) = 1) rfl (by decide) (h.2 c1)
theorem S_Vp_isDayQuestion {d : Nat} {v : Int32} {w : xWd} {Q : xMV → xWd → Prop} (h1 : p_q4 v → Q (xI 1) w) (h2 : ¬ p_q4 v → Q (xI 0) w) : xWp (d + 1) m_Vp_isDayQuestion 0 [xI v] [] w Q := by
  have fin : (v.toInt < 0 ∨ 4 < v.toInt) → xWp d m_Vp_isNumbered 0 [xI v, xI 8] [] w (fun a w' => xWp (d + 1) m_Vp_isDayQuestion 15 [xI v] (x_pu a []) w' Q) := fun c => by
    refine S_Vp_isNumbered (m := 8) (by decide) rfl (fun q => ?_) (fun q => ?_)
    · exact G_Vp_isDayQuestion_15 ⟨fun c => absurd c (by decide), fun _ => h1 (Or.inr (by omega))⟩
    · exact G_Vp_isDayQuestion_15 ⟨fun _ => h2 (fun r => by unfold p_q4 p_qn at r; omega), fun c => absurd rfl c⟩
  refine G_Vp_isDayQuestion_0 ⟨fun c => ?_, fun c => ⟨fun c2 => ?_, fun c2 => ?_⟩⟩ <;> simp only [fa_lt, fa_le, e_l0, e_l4] at c
  · exact fin (by omega)
  · exact h1 (Or.inl ⟨by omega, by simpa only [fa_le, e_l4] using c2⟩)
  · exact fin (Or.inr (by simp only [fa_le, e_l4] at c2; omega))
theorem G_Vp_isHoldQuestion_0 {d : Nat} {x0 : Int32} {w : xWd} {Q : xMV → xWd → Prop} (h : ((x0 < 0 → xWp d m_Vp_isNumbered 0 [xI x0, xI 8] [] w (fun a w' => xWp (d + 1) m_Vp_isHoldQuestion 15 [xI x0] (x_pu a []) w' Q)) ∧ (¬ (x0 < 0) → ((x0 ≤ 2 → Q (xI 1) w) ∧ (¬ (x0 ≤ 2) → xWp d m_Vp_isNumbered 0 [xI x0, xI 8] [] w (fun a w' => xWp (d + 1) m_Vp_isHoldQuestion 15 [xI x0] (x_pu a []) w' Q)))))) : xWp (d + 1) m_Vp_isHoldQuestion 0 [xI x0] [] w Q := by
  refine x_goN 2 (pc' := if x0 < 0 then 9 else 4) (ls' := [xI x0]) (st' := []) (w' := w) rfl ?_
  refine x_br (fun c1 => ?_) (fun c1 => ?_)
  · skip
    refine x_goN 2 (pc' := 12) (ls' := [xI x0]) (st' := [xI 8, xI x0]) (w' := w) rfl ?_
    refine x_call (y := m_Vp_isNumbered) (as := [xI x0, xI 8]) (rst := []) rfl [xI x0, xI 8] rfl ?_
    exact (h.1 c1)
  · skip
    refine x_goN 3 (pc' := if x0 ≤ 2 then 18 else 9) (ls' := [xI x0]) (st' := []) (w' := w) rfl ?_
    refine x_br (fun c2 => ?_) (fun c2 => ?_)
    · skip
      refine x_goN 2 (pc' := 23) (ls' := [xI x0]) (st' := [xI 1]) (w' := w) rfl ?_
      exact x_ret (P := (1 : Int32) = 0 ∨ (1 : Int32) = 1) rfl (by decide) ((h.2 c1).1 c2)
    · skip
      refine x_goN 2 (pc' := 12) (ls' := [xI x0]) (st' := [xI 8, xI x0]) (w' := w) rfl ?_
      refine x_call (y := m_Vp_isNumbered) (as := [xI x0, xI 8]) (rst := []) rfl [xI x0, xI 8] rfl ?_
      exact ((h.2 c1).2 c2)
theorem G_Vp_isHoldQuestion_15 {d : Nat} {x0 : Int32} {s0 : Int32} {w : xWd} {Q : xMV → xWd → Prop} (h : ((s0 = 0 → Q (xI 0) w) ∧ (¬ (s0 = 0) → Q (xI 1) w))) : xWp (d + 1) m_Vp_isHoldQuestion 15 [xI x0] [xI s0] w Q := by
  refine x_goN 1 (pc' := if s0 = 0 then 22 else 18) (ls' := [xI x0]) (st' := []) (w' := w) rfl ?_
  refine x_br (fun c1 => ?_) (fun c1 => ?_)
  · skip
    refine x_goN 1 (pc' := 23) (ls' := [xI x0]) (st' := [xI 0]) (w' := w) rfl ?_
    exact x_ret (P := (0 : Int32) = 0 ∨ (0 : Int32) = 1) rfl (by decide) (h.1 c1)
  · skip
    refine x_goN 2 (pc' := 23) (ls' := [xI x0]) (st' := [xI 1]) (w' := w) rfl ?_
    exact x_ret (P := (1 : Int32) = 0 ∨ (1 : Int32) = 1) rfl (by decide) (h.2 c1)
theorem S_Vp_isHoldQuestion {d : Nat} {v : Int32} {w : xWd} {Q : xMV → xWd → Prop} (h1 : p_q2 v → Q (xI 1) w) (h2 : ¬ p_q2 v → Q (xI 0) w) : xWp (d + 1) m_Vp_isHoldQuestion 0 [xI v] [] w Q := by
  have fin : (v.toInt < 0 ∨ 2 < v.toInt) → xWp d m_Vp_isNumbered 0 [xI v, xI 8] [] w (fun a w' => xWp (d + 1) m_Vp_isHoldQuestion 15 [xI v] (x_pu a []) w' Q) := fun c => by
    refine S_Vp_isNumbered (m := 8) (by decide) rfl (fun q => ?_) (fun q => ?_)
    · exact G_Vp_isHoldQuestion_15 ⟨fun c => absurd c (by decide), fun _ => h1 (Or.inr (by omega))⟩
    · exact G_Vp_isHoldQuestion_15 ⟨fun _ => h2 (fun r => by unfold p_q2 p_qn at r; omega), fun c => absurd rfl c⟩
  refine G_Vp_isHoldQuestion_0 ⟨fun c => ?_, fun c => ⟨fun c2 => ?_, fun c2 => ?_⟩⟩ <;> simp only [fa_lt, fa_le, e_l0] at c
  · exact fin (by omega)
  · exact h1 (Or.inl ⟨by omega, by simpa only [fa_le, e_l2] using c2⟩)
  · exact fin (Or.inr (by simp only [fa_le, e_l2] at c2; omega))
theorem G_Vp_isCopiesQuestion_0 {d : Nat} {x0 : Int32} {w : xWd} {Q : xMV → xWd → Prop} (h : ((x0 = 0 → Q (xI 1) w) ∧ (¬ (x0 = 0) → ((x0 = 1 → Q (xI 1) w) ∧ (¬ (x0 = 1) → xWp d m_Vp_isNumbered 0 [xI x0, xI 20] [] w (fun a w' => xWp (d + 1) m_Vp_isCopiesQuestion 15 [xI x0] (x_pu a []) w' Q)))))) : xWp (d + 1) m_Vp_isCopiesQuestion 0 [xI x0] [] w Q := by
  refine x_goN 2 (pc' := if x0 = 0 then 18 else 4) (ls' := [xI x0]) (st' := []) (w' := w) rfl ?_
  refine x_br (fun c1 => ?_) (fun c1 => ?_)
  · skip
    refine x_goN 2 (pc' := 23) (ls' := [xI x0]) (st' := [xI 1]) (w' := w) rfl ?_
    exact x_ret (P := (1 : Int32) = 0 ∨ (1 : Int32) = 1) rfl (by decide) (h.1 c1)
  · skip
    refine x_goN 3 (pc' := if x0 = 1 then 18 else 9) (ls' := [xI x0]) (st' := []) (w' := w) rfl ?_
    refine x_br (fun c2 => ?_) (fun c2 => ?_)
    · skip
      refine x_goN 2 (pc' := 23) (ls' := [xI x0]) (st' := [xI 1]) (w' := w) rfl ?_
      exact x_ret (P := (1 : Int32) = 0 ∨ (1 : Int32) = 1) rfl (by decide) ((h.2 c1).1 c2)
    · skip
      refine x_goN 2 (pc' := 12) (ls' := [xI x0]) (st' := [xI 20, xI x0]) (w' := w) rfl ?_
      refine x_call (y := m_Vp_isNumbered) (as := [xI x0, xI 20]) (rst := []) rfl [xI x0, xI 20] rfl ?_
      exact ((h.2 c1).2 c2)
theorem G_Vp_isCopiesQuestion_15 {d : Nat} {x0 : Int32} {s0 : Int32} {w : xWd} {Q : xMV → xWd → Prop} (h : ((s0 = 0 → Q (xI 0) w) ∧ (¬ (s0 = 0) → Q (xI 1) w))) : xWp (d + 1) m_Vp_isCopiesQuestion 15 [xI x0] [xI s0] w Q := by
  refine x_goN 1 (pc' := if s0 = 0 then 22 else 18) (ls' := [xI x0]) (st' := []) (w' := w) rfl ?_
  refine x_br (fun c1 => ?_) (fun c1 => ?_)
  · skip
    refine x_goN 1 (pc' := 23) (ls' := [xI x0]) (st' := [xI 0]) (w' := w) rfl ?_
    exact x_ret (P := (0 : Int32) = 0 ∨ (0 : Int32) = 1) rfl (by decide) (h.1 c1)
  · skip
    refine x_goN 2 (pc' := 23) (ls' := [xI x0]) (st' := [xI 1]) (w' := w) rfl ?_
    exact x_ret (P := (1 : Int32) = 0 ∨ (1 : Int32) = 1) rfl (by decide) (h.2 c1)
theorem S_Vp_isCopiesQuestion {d : Nat} {v : Int32} {w : xWd} {Q : xMV → xWd → Prop} (h1 : p_q1 v → Q (xI 1) w) (h2 : ¬ p_q1 v → Q (xI 0) w) : xWp (d + 1) m_Vp_isCopiesQuestion 0 [xI v] [] w Q := by
  refine G_Vp_isCopiesQuestion_0 ⟨fun c => ?_, fun c => ⟨fun c2 => ?_, fun c2 => ?_⟩⟩
  · exact h1 (Or.inl (by rw [c, e_l0]; omega))
  · exact h1 (Or.inl (by rw [c2, e_l1]; omega))
  · rw [fa_eq, e_l0] at c
    rw [fa_eq, e_l1] at c2
    refine S_Vp_isNumbered (m := 20) (by decide) rfl (fun q => ?_) (fun q => ?_)
    · exact G_Vp_isCopiesQuestion_15 ⟨fun c => absurd c (by decide), fun _ => h1 (Or.inr (by omega))⟩
    · exact G_Vp_isCopiesQuestion_15 ⟨fun _ => h2 (fun r => by unfold p_q1 p_qn at r; omega), fun c => absurd rfl c⟩
def v_us (x : Int32) (k : Int32) : Int32 := (x.toUInt32 >>> (k.toUInt32 &&& Int32.toUInt32 31)).toInt32
def v_bc1 (x : Int32) : Int32 := x - (v_us x 1 &&& 1431655765)
def v_bc2 (x : Int32) : Int32 := (x &&& 858993459) + (v_us x 2 &&& 858993459)
def v_bc3 (x : Int32) : Int32 := (x + v_us x 4) &&& 252645135
def v_bc4 (x : Int32) : Int32 := x + v_us x 8
def v_bc5 (x : Int32) : Int32 := (x + v_us x 16) &&& 63
def v_bc (x : Int32) : Int32 := v_bc5 (v_bc4 (v_bc3 (v_bc2 (v_bc1 x))))
theorem v_bc_ok : ∀ m, m < 256 → v_bc (nI m) = nI (z_pc m) := by decide +kernel
theorem S_Jn_bitCount {d : Nat} {x : Int32} {w : xWd} {Q : xMV → xWd → Prop} (h : Q (xI (v_bc x)) w) : xWp d m_Jn_bitCount 0 [xI x] [] w Q := by
  refine x_goN 8 (pc' := 10) (ls' := [xI (v_bc1 x)]) (st' := []) (w' := w) rfl ?_
  refine x_goN 10 (pc' := 24) (ls' := [xI (v_bc2 (v_bc1 x))]) (st' := []) (w' := w) rfl ?_
  refine x_goN 8 (pc' := 34) (ls' := [xI (v_bc3 (v_bc2 (v_bc1 x)))]) (st' := []) (w' := w) rfl ?_
  refine x_goN 6 (pc' := 41) (ls' := [xI (v_bc4 (v_bc3 (v_bc2 (v_bc1 x))))]) (st' := []) (w' := w) rfl ?_
  refine x_goN 9 (pc' := 52) (ls' := [xI (v_bc4 (v_bc3 (v_bc2 (v_bc1 x))) + v_us (v_bc4 (v_bc3 (v_bc2 (v_bc1 x)))) 16)]) (st' := [xI (v_bc x)]) (w' := w) rfl ?_
  exact x_ret (P := True) rfl trivial h
/-- the least number that is not in a set, from k on -/
def z_lzf (m : Nat) : Nat → Nat → Nat
  | 0, k => k
  | f + 1, k => if m.testBit k then z_lzf m f (k + 1) else k
def z_lz (m : Nat) : Nat := z_lzf m 8 0
def z_tzf (m : Nat) : Nat → Nat → Nat
  | 0, k => k
  | f + 1, k => if m.testBit k then k else z_tzf m f (k + 1)
def z_tz (m : Nat) : Nat := z_tzf m 8 0
theorem z_lz_ok : ∀ m, m < 256 → ((nI m ^^^ (-1)) ^^^ (-1)) &&& ((nI m ^^^ (-1)) - 1) = nI (2 ^ z_lz m - 1) ∧ z_lz m ≤ 8 := by decide +kernel
theorem z_tz_ok : ∀ m, m < 256 → m ≠ 0 → (nI m ^^^ (-1)) &&& (nI m - 1) = nI (2 ^ z_tz m - 1) ∧ z_tz m < 8 := by decide +kernel
theorem S8_tz_0 {d : Nat} {w : xWd} {Q : xMV → xWd → Prop} (h : Q (xI 0) w) : xWp d m_Jn_numberOfTrailingZeros 8 [xI 0, xU] [] w Q := by
  refine x_goN 5 (pc' := 16) (ls' := [xI 0, xU]) (st' := [xI 0]) (w' := w) rfl ?_
  exact x_ret (P := True) rfl trivial h
theorem S8_tz_1 {d : Nat} {w : xWd} {Q : xMV → xWd → Prop} (h : Q (xI 1) w) : xWp d m_Jn_numberOfTrailingZeros 8 [xI 1, xU] [] w Q := by
  refine x_goN 21 (pc' := 79) (ls' := [xI 1, xI 1]) (st' := [xI 1]) (w' := w) rfl ?_
  exact x_ret (P := True) rfl trivial h
theorem S8_tz_2 {d : Nat} {w : xWd} {Q : xMV → xWd → Prop} (h : Q (xI 2) w) : xWp d m_Jn_numberOfTrailingZeros 8 [xI 3, xU] [] w Q := by
  refine x_goN 21 (pc' := 79) (ls' := [xI 3, xI 1]) (st' := [xI 2]) (w' := w) rfl ?_
  exact x_ret (P := True) rfl trivial h
theorem S8_tz_3 {d : Nat} {w : xWd} {Q : xMV → xWd → Prop} (h : Q (xI 3) w) : xWp d m_Jn_numberOfTrailingZeros 8 [xI 7, xU] [] w Q := by
  refine x_goN 26 (pc' := 79) (ls' := [xI 1, xI 3]) (st' := [xI 3]) (w' := w) rfl ?_
  exact x_ret (P := True) rfl trivial h
theorem S8_tz_4 {d : Nat} {w : xWd} {Q : xMV → xWd → Prop} (h : Q (xI 4) w) : xWp d m_Jn_numberOfTrailingZeros 8 [xI 15, xU] [] w Q := by
  refine x_goN 26 (pc' := 79) (ls' := [xI 3, xI 3]) (st' := [xI 4]) (w' := w) rfl ?_
  exact x_ret (P := True) rfl trivial h
theorem S8_tz_5 {d : Nat} {w : xWd} {Q : xMV → xWd → Prop} (h : Q (xI 5) w) : xWp d m_Jn_numberOfTrailingZeros 8 [xI 31, xU] [] w Q := by
  refine x_goN 26 (pc' := 79) (ls' := [xI 1, xI 5]) (st' := [xI 5]) (w' := w) rfl ?_
  exact x_ret (P := True) rfl trivial h
theorem S8_tz_6 {d : Nat} {w : xWd} {Q : xMV → xWd → Prop} (h : Q (xI 6) w) : xWp d m_Jn_numberOfTrailingZeros 8 [xI 63, xU] [] w Q := by
  refine x_goN 26 (pc' := 79) (ls' := [xI 3, xI 5]) (st' := [xI 6]) (w' := w) rfl ?_
  exact x_ret (P := True) rfl trivial h
theorem S8_tz_7 {d : Nat} {w : xWd} {Q : xMV → xWd → Prop} (h : Q (xI 7) w) : xWp d m_Jn_numberOfTrailingZeros 8 [xI 127, xU] [] w Q := by
  refine x_goN 31 (pc' := 79) (ls' := [xI 1, xI 7]) (st' := [xI 7]) (w' := w) rfl ?_
  exact x_ret (P := True) rfl trivial h
theorem S8_tz_8 {d : Nat} {w : xWd} {Q : xMV → xWd → Prop} (h : Q (xI 8) w) : xWp d m_Jn_numberOfTrailingZeros 8 [xI 255, xU] [] w Q := by
  refine x_goN 31 (pc' := 79) (ls' := [xI 3, xI 7]) (st' := [xI 8]) (w' := w) rfl ?_
  exact x_ret (P := True) rfl trivial h
theorem S_tz {d k : Nat} (hk : k ≤ 8) {x : Int32} (hx : (x ^^^ (-1)) &&& (x - 1) = nI (2 ^ k - 1)) {w : xWd} {Q : xMV → xWd → Prop} (h : Q (xI (nI k)) w) : xWp d m_Jn_numberOfTrailingZeros 0 [xI x, xU] [] w Q := by
  refine x_goN 8 (pc' := 8) (ls' := [xI ((x ^^^ (-1)) &&& (x - 1)), xU]) (st' := []) (w' := w) rfl ?_
  rw [hx]
  match k, hk, h with
  | 0, _, h => exact S8_tz_0 h
  | 1, _, h => exact S8_tz_1 h
  | 2, _, h => exact S8_tz_2 h
  | 3, _, h => exact S8_tz_3 h
  | 4, _, h => exact S8_tz_4 h
  | 5, _, h => exact S8_tz_5 h
  | 6, _, h => exact S8_tz_6 h
  | 7, _, h => exact S8_tz_7 h
  | 8, _, h => exact S8_tz_8 h
  | k + 9, hk, _ => omega

