/-! GROW, both sides -/
theorem tUse_b (T : xT) (v l q : Nat) : tb (tUse T v) l q = tb T l q := rfl
theorem tUse_n (T : xT) (v : Nat) : tn (tUse T v) = tn T := rfl
theorem pC_2 {T : xT} {k o : Nat} {x y : Int32} (h : tW T) (hn : tn T < 8) (ho : o < tn T) (hx : pG T (nI o) x) (hy : pG T (nI o) y) (h9 : x = -9 → y = -9) (hne : x ≠ -9 → x ≠ y) : pC (tUs (tPut T k o) x) y := by
  rcases pC_1 (k := k) h hn ho hy with e | ⟨v, hv, e, hc⟩
  · exact Or.inl e
  · have hy9 : ¬ y = -9 := fun q => z_n9 (n := v) (by omega) (q.symm.trans e)
    rcases pC_1 (k := k) h hn ho hx with e' | ⟨u, hu, e', hc'⟩
    · exact absurd (h9 e') hy9
    · have huv : u ≠ v := fun q => hne (fun q9 => hy9 (h9 q9)) (by rw [e, e', q])
      refine Or.inr ⟨v, hv, e, ?_⟩
      rw [e', tUs_v hu]
      have hm0 : tm (tPut T k o) (tn (tPut T k o) - 1) = 0 := by rw [tPut_n, Nat.add_sub_cancel, tPut_mn]
      unfold tCan
      rw [tUse_n, tUse_b]
      refine ⟨hc.1, hc.2.1, ?_, ?_⟩
      · rw [tUse_mn, hm0]; decide
      · rw [tUse_rn (by rw [hm0]; decide), hc.2.2.2, Bool.false_or]
        exact decide_eq_false huv
def tGr (T : xT) (k o : Nat) (x y : Int32) : xT := tUs (tUs (tPut T k o) x) y
theorem tUs_n (T : xT) (x : Int32) : tn (tUs T x) = tn T := by
  unfold tUs; split <;> rfl
theorem tUs_W {T : xT} {x : Int32} (h : tW T) (hc : pC T x) : tW (tUs T x) := by
  rcases hc with e | ⟨v, hv, e, hc⟩
  · rw [e, tUs_9]; exact h
  · rw [e, tUs_v hv]; exact tUse_W h hc
theorem G_Vp_grow_0 {d : Nat} {x1 : Int32} {x2 : Int32} {x3 : Int32} {x4 : Int32} {w : xWd} {Q : xMV → xWd → Prop} (h : ((p_rg x1 0 2 → ((p_lt x2 (w 34 8) → xWp (d + 2) m_Vp_isLineOrNone 0 [xA 6 1, xI x3] [] w (fun a w' => xWp (d + 3) m_Vp_grow 26 [xA 6 1, xI x1, xI x2, xI x3, xI x4, xU] (x_pu a []) w' Q)) ∧ (¬ (p_lt x2 (w 34 8)) → Q (xI (-1)) w))) ∧ (¬ (p_rg x1 0 2) → Q (xI (-2)) w))) : xWp (d + 3) m_Vp_grow 0 [xA 6 1, xI x1, xI x2, xI x3, xI x4, xU] [] w Q := by
  refine x_goN 1 (pc' := 1) (ls' := [xA 6 1, xI x1, xI x2, xI x3, xI x4, xU]) (st' := [xI x1]) (w' := w) rfl ?_
  refine x_call (y := m_Vp_isKind) (as := [xI x1]) (rst := []) rfl [xI x1] rfl ?_
  refine S_Vp_isKind (fun c1 => ?_) (fun c1 => ?_)
  · skip
    refine x_goN 1 (pc' := if (1 : Int32) = (0 : Int32) then 7 else 10) (ls' := [xA 6 1, xI x1, xI x2, xI x3, xI x4, xU]) (st' := []) (w' := w) rfl ?_
    refine x_brF (by decide) ?_
    refine x_goN 3 (pc' := 15) (ls' := [xA 6 1, xI x1, xI x2, xI x3, xI x4, xU]) (st' := [xI x2, xA 5 34]) (w' := w) rfl ?_
    refine x_call (y := m_Tr_isLine) (as := [xA 5 34, xI x2]) (rst := []) rfl [xA 5 34, xI x2] rfl ?_
    refine S_Tr_isLine (fun c2 => ?_) (fun c2 => ?_)
    · skip
      refine x_goN 1 (pc' := if (1 : Int32) = (0 : Int32) then 51 else 21) (ls' := [xA 6 1, xI x1, xI x2, xI x3, xI x4, xU]) (st' := []) (w' := w) rfl ?_
      refine x_brF (by decide) ?_
      refine x_goN 2 (pc' := 23) (ls' := [xA 6 1, xI x1, xI x2, xI x3, xI x4, xU]) (st' := [xI x3, xA 6 1]) (w' := w) rfl ?_
      refine x_call (y := m_Vp_isLineOrNone) (as := [xA 6 1, xI x3]) (rst := []) rfl [xA 6 1, xI x3] rfl ?_
      exact ((h.1 c1).1 c2)
    · skip
      refine x_goN 1 (pc' := if (0 : Int32) = (0 : Int32) then 51 else 21) (ls' := [xA 6 1, xI x1, xI x2, xI x3, xI x4, xU]) (st' := []) (w' := w) rfl ?_
      refine x_brT (by decide) ?_
      refine x_goN 1 (pc' := 52) (ls' := [xA 6 1, xI x1, xI x2, xI x3, xI x4, xU]) (st' := [xI (-1)]) (w' := w) rfl ?_
      exact x_ret (P := True) rfl trivial ((h.1 c1).2 c2)
  · skip
    refine x_goN 1 (pc' := if (0 : Int32) = (0 : Int32) then 7 else 10) (ls' := [xA 6 1, xI x1, xI x2, xI x3, xI x4, xU]) (st' := []) (w' := w) rfl ?_
    refine x_brT (by decide) ?_
    refine x_goN 1 (pc' := 9) (ls' := [xA 6 1, xI x1, xI x2, xI x3, xI x4, xU]) (st' := [xI (-2)]) (w' := w) rfl ?_
    exact x_ret (P := True) rfl trivial (h.2 c1)
theorem G_Vp_grow_26 {d : Nat} {x1 : Int32} {x2 : Int32} {x3 : Int32} {x4 : Int32} {s0 : Int32} {w : xWd} {Q : xMV → xWd → Prop} (h : ((s0 = 0 → Q (xI (-1)) w) ∧ (¬ (s0 = 0) → xWp (d + 2) m_Vp_isLineOrNone 0 [xA 6 1, xI x4] [] w (fun a w' => xWp (d + 3) m_Vp_grow 35 [xA 6 1, xI x1, xI x2, xI x3, xI x4, xU] (x_pu a []) w' Q)))) : xWp (d + 3) m_Vp_grow 26 [xA 6 1, xI x1, xI x2, xI x3, xI x4, xU] [xI s0] w Q := by
  refine x_goN 1 (pc' := if s0 = 0 then 51 else 29) (ls' := [xA 6 1, xI x1, xI x2, xI x3, xI x4, xU]) (st' := []) (w' := w) rfl ?_
  refine x_br (fun c1 => ?_) (fun c1 => ?_)
  · skip
    refine x_goN 1 (pc' := 52) (ls' := [xA 6 1, xI x1, xI x2, xI x3, xI x4, xU]) (st' := [xI (-1)]) (w' := w) rfl ?_
    exact x_ret (P := True) rfl trivial (h.1 c1)
  · skip
    refine x_goN 2 (pc' := 32) (ls' := [xA 6 1, xI x1, xI x2, xI x3, xI x4, xU]) (st' := [xI x4, xA 6 1]) (w' := w) rfl ?_
    refine x_call (y := m_Vp_isLineOrNone) (as := [xA 6 1, xI x4]) (rst := []) rfl [xA 6 1, xI x4] rfl ?_
    exact (h.2 c1)
theorem G_Vp_grow_35 {d : Nat} {x1 : Int32} {x2 : Int32} {x3 : Int32} {x4 : Int32} {s0 : Int32} {w : xWd} {Q : xMV → xWd → Prop} (h : ((s0 = 0 → Q (xI (-1)) w) ∧ (¬ (s0 = 0) → ((x3 = (-9) → ((x4 = (-9) → xWp (d + 2) m_Vp_wouldBeBelow 0 [xA 6 1, xI x2, xI x3] [] w (fun a w' => xWp (d + 3) m_Vp_grow 59 [xA 6 1, xI x1, xI x2, xI x3, xI x4, xU] (x_pu a []) w' Q)) ∧ (¬ (x4 = (-9)) → Q (xI (-1)) w))) ∧ (¬ (x3 = (-9)) → xWp (d + 2) m_Vp_wouldBeBelow 0 [xA 6 1, xI x2, xI x3] [] w (fun a w' => xWp (d + 3) m_Vp_grow 59 [xA 6 1, xI x1, xI x2, xI x3, xI x4, xU] (x_pu a []) w' Q)))))) : xWp (d + 3) m_Vp_grow 35 [xA 6 1, xI x1, xI x2, xI x3, xI x4, xU] [xI s0] w Q := by
  refine x_goN 1 (pc' := if s0 = 0 then 51 else 38) (ls' := [xA 6 1, xI x1, xI x2, xI x3, xI x4, xU]) (st' := []) (w' := w) rfl ?_
  refine x_br (fun c1 => ?_) (fun c1 => ?_)
  · skip
    refine x_goN 1 (pc' := 52) (ls' := [xA 6 1, xI x1, xI x2, xI x3, xI x4, xU]) (st' := [xI (-1)]) (w' := w) rfl ?_
    exact x_ret (P := True) rfl trivial (h.1 c1)
  · skip
    refine x_goN 3 (pc' := if x3 = (-9) then 44 else 53) (ls' := [xA 6 1, xI x1, xI x2, xI x3, xI x4, xU]) (st' := []) (w' := w) rfl ?_
    refine x_br (fun c2 => ?_) (fun c2 => ?_)
    · skip
      refine x_goN 3 (pc' := if x4 = (-9) then 53 else 51) (ls' := [xA 6 1, xI x1, xI x2, xI x3, xI x4, xU]) (st' := []) (w' := w) rfl ?_
      refine x_br (fun c3 => ?_) (fun c3 => ?_)
      · skip
        refine x_goN 3 (pc' := 56) (ls' := [xA 6 1, xI x1, xI x2, xI x3, xI x4, xU]) (st' := [xI x3, xI x2, xA 6 1]) (w' := w) rfl ?_
        refine x_call (y := m_Vp_wouldBeBelow) (as := [xA 6 1, xI x2, xI x3]) (rst := []) rfl [xA 6 1, xI x2, xI x3] rfl ?_
        exact (((h.2 c1).1 c2).1 c3)
      · skip
        refine x_goN 1 (pc' := 52) (ls' := [xA 6 1, xI x1, xI x2, xI x3, xI x4, xU]) (st' := [xI (-1)]) (w' := w) rfl ?_
        exact x_ret (P := True) rfl trivial (((h.2 c1).1 c2).2 c3)
    · skip
      refine x_goN 3 (pc' := 56) (ls' := [xA 6 1, xI x1, xI x2, xI x3, xI x4, xU]) (st' := [xI x3, xI x2, xA 6 1]) (w' := w) rfl ?_
      refine x_call (y := m_Vp_wouldBeBelow) (as := [xA 6 1, xI x2, xI x3]) (rst := []) rfl [xA 6 1, xI x2, xI x3] rfl ?_
      exact ((h.2 c1).2 c2)
theorem G_Vp_grow_59 {d : Nat} {x1 : Int32} {x2 : Int32} {x3 : Int32} {x4 : Int32} {s0 : Int32} {w : xWd} {Q : xMV → xWd → Prop} (h : ((s0 = 0 → Q (xI (-3)) w) ∧ (¬ (s0 = 0) → xWp (d + 2) m_Vp_wouldBeBelow 0 [xA 6 1, xI x2, xI x4] [] w (fun a w' => xWp (d + 3) m_Vp_grow 69 [xA 6 1, xI x1, xI x2, xI x3, xI x4, xU] (x_pu a []) w' Q)))) : xWp (d + 3) m_Vp_grow 59 [xA 6 1, xI x1, xI x2, xI x3, xI x4, xU] [xI s0] w Q := by
  refine x_goN 1 (pc' := if s0 = 0 then 84 else 62) (ls' := [xA 6 1, xI x1, xI x2, xI x3, xI x4, xU]) (st' := []) (w' := w) rfl ?_
  refine x_br (fun c1 => ?_) (fun c1 => ?_)
  · skip
    refine x_goN 1 (pc' := 86) (ls' := [xA 6 1, xI x1, xI x2, xI x3, xI x4, xU]) (st' := [xI (-3)]) (w' := w) rfl ?_
    exact x_ret (P := True) rfl trivial (h.1 c1)
  · skip
    refine x_goN 3 (pc' := 66) (ls' := [xA 6 1, xI x1, xI x2, xI x3, xI x4, xU]) (st' := [xI x4, xI x2, xA 6 1]) (w' := w) rfl ?_
    refine x_call (y := m_Vp_wouldBeBelow) (as := [xA 6 1, xI x2, xI x4]) (rst := []) rfl [xA 6 1, xI x2, xI x4] rfl ?_
    exact (h.2 c1)
theorem G_Vp_grow_69 {d : Nat} {x1 : Int32} {x2 : Int32} {x3 : Int32} {x4 : Int32} {s0 : Int32} {w : xWd} {Q : xMV → xWd → Prop} (h : ((s0 = 0 → Q (xI (-3)) w) ∧ (¬ (s0 = 0) → ((x3 = (-9) → ((w 34 8 < 8 → xWp (d + 2) m_Tr_putOn 0 [xA 5 34, xI x1, xI x2, xU] [] w (fun a w' => xWp (d + 3) m_Vp_grow 120 [xA 6 1, xI x1, xI x2, xI x3, xI x4, xI (w 34 8)] (x_pu a []) w' Q)) ∧ (¬ (w 34 8 < 8) → Q (xI (-4)) w))) ∧ (¬ (x3 = (-9)) → ((x3 = x4 → Q (xI (-3)) w) ∧ (¬ (x3 = x4) → ((w 34 8 < 8 → xWp (d + 2) m_Tr_putOn 0 [xA 5 34, xI x1, xI x2, xU] [] w (fun a w' => xWp (d + 3) m_Vp_grow 120 [xA 6 1, xI x1, xI x2, xI x3, xI x4, xI (w 34 8)] (x_pu a []) w' Q)) ∧ (¬ (w 34 8 < 8) → Q (xI (-4)) w))))))))) : xWp (d + 3) m_Vp_grow 69 [xA 6 1, xI x1, xI x2, xI x3, xI x4, xU] [xI s0] w Q := by
  refine x_goN 1 (pc' := if s0 = 0 then 84 else 72) (ls' := [xA 6 1, xI x1, xI x2, xI x3, xI x4, xU]) (st' := []) (w' := w) rfl ?_
  refine x_br (fun c1 => ?_) (fun c1 => ?_)
  · skip
    refine x_goN 1 (pc' := 86) (ls' := [xA 6 1, xI x1, xI x2, xI x3, xI x4, xU]) (st' := [xI (-3)]) (w' := w) rfl ?_
    exact x_ret (P := True) rfl trivial (h.1 c1)
  · skip
    refine x_goN 3 (pc' := if x3 = (-9) then 87 else 78) (ls' := [xA 6 1, xI x1, xI x2, xI x3, xI x4, xU]) (st' := []) (w' := w) rfl ?_
    refine x_br (fun c2 => ?_) (fun c2 => ?_)
    · skip
      refine x_goN 5 (pc' := if w 34 8 < 8 then 102 else 99) (ls' := [xA 6 1, xI x1, xI x2, xI x3, xI x4, xU]) (st' := []) (w' := w) rfl ?_
      refine x_br (fun c3 => ?_) (fun c3 => ?_)
      · skip
        refine x_goN 8 (pc' := 117) (ls' := [xA 6 1, xI x1, xI x2, xI x3, xI x4, xI (w 34 8)]) (st' := [xI x2, xI x1, xA 5 34]) (w' := w) rfl ?_
        refine x_call (y := m_Tr_putOn) (as := [xA 5 34, xI x1, xI x2]) (rst := []) rfl [xA 5 34, xI x1, xI x2, xU] rfl ?_
        exact (((h.2 c1).1 c2).1 c3)
      · skip
        refine x_goN 1 (pc' := 101) (ls' := [xA 6 1, xI x1, xI x2, xI x3, xI x4, xU]) (st' := [xI (-4)]) (w' := w) rfl ?_
        exact x_ret (P := True) rfl trivial (((h.2 c1).1 c2).2 c3)
    · skip
      refine x_goN 3 (pc' := if x3 = x4 then 84 else 87) (ls' := [xA 6 1, xI x1, xI x2, xI x3, xI x4, xU]) (st' := []) (w' := w) rfl ?_
      refine x_br (fun c4 => ?_) (fun c4 => ?_)
      · skip
        refine x_goN 1 (pc' := 86) (ls' := [xA 6 1, xI x1, xI x2, xI x3, xI x4, xU]) (st' := [xI (-3)]) (w' := w) rfl ?_
        exact x_ret (P := True) rfl trivial (((h.2 c1).2 c2).1 c4)
      · skip
        refine x_goN 5 (pc' := if w 34 8 < 8 then 102 else 99) (ls' := [xA 6 1, xI x1, xI x2, xI x3, xI x4, xU]) (st' := []) (w' := w) rfl ?_
        refine x_br (fun c5 => ?_) (fun c5 => ?_)
        · skip
          refine x_goN 8 (pc' := 117) (ls' := [xA 6 1, xI x1, xI x2, xI x3, xI x4, xI (w 34 8)]) (st' := [xI x2, xI x1, xA 5 34]) (w' := w) rfl ?_
          refine x_call (y := m_Tr_putOn) (as := [xA 5 34, xI x1, xI x2]) (rst := []) rfl [xA 5 34, xI x1, xI x2, xU] rfl ?_
          exact ((((h.2 c1).2 c2).2 c4).1 c5)
        · skip
          refine x_goN 1 (pc' := 101) (ls' := [xA 6 1, xI x1, xI x2, xI x3, xI x4, xU]) (st' := [xI (-4)]) (w' := w) rfl ?_
          exact x_ret (P := True) rfl trivial ((((h.2 c1).2 c2).2 c4).2 c5)
theorem G_Vp_grow_120 {d : Nat} {x1 : Int32} {x2 : Int32} {x3 : Int32} {x4 : Int32} {x5 : Int32} {w : xWd} {Q : xMV → xWd → Prop} (h : xWp (d + 2) m_Tr_useToo 0 [xA 5 34, xI x3, xU] [] w (fun a w' => xWp (d + 3) m_Vp_grow 128 [xA 6 1, xI x1, xI x2, xI x3, xI x4, xI x5] (x_pu a []) w' Q)) : xWp (d + 3) m_Vp_grow 120 [xA 6 1, xI x1, xI x2, xI x3, xI x4, xI x5] [] w Q := by
  refine x_goN 3 (pc' := 125) (ls' := [xA 6 1, xI x1, xI x2, xI x3, xI x4, xI x5]) (st' := [xI x3, xA 5 34]) (w' := w) rfl ?_
  refine x_call (y := m_Tr_useToo) (as := [xA 5 34, xI x3]) (rst := []) rfl [xA 5 34, xI x3, xU] rfl ?_
  exact h
theorem G_Vp_grow_128 {d : Nat} {x1 : Int32} {x2 : Int32} {x3 : Int32} {x4 : Int32} {x5 : Int32} {s0 : Int32} {w : xWd} {Q : xMV → xWd → Prop} (h : xWp (d + 2) m_Tr_useToo 0 [xA 5 34, xI x4, xU] [] w (fun a w' => xWp (d + 3) m_Vp_grow 138 [xA 6 1, xI x1, xI x2, xI x3, xI x4, xI x5] (x_pu a []) w' Q)) : xWp (d + 3) m_Vp_grow 128 [xA 6 1, xI x1, xI x2, xI x3, xI x4, xI x5] [xI s0] w Q := by
  refine x_goN 4 (pc' := 135) (ls' := [xA 6 1, xI x1, xI x2, xI x3, xI x4, xI x5]) (st' := [xI x4, xA 5 34]) (w' := w) rfl ?_
  refine x_call (y := m_Tr_useToo) (as := [xA 5 34, xI x4]) (rst := []) rfl [xA 5 34, xI x4, xU] rfl ?_
  exact h
theorem G_Vp_grow_138 {d : Nat} {x1 : Int32} {x2 : Int32} {x3 : Int32} {x4 : Int32} {x5 : Int32} {s0 : Int32} {w : xWd} {Q : xMV → xWd → Prop} (h : Q (xI x5) w) : xWp (d + 3) m_Vp_grow 138 [xA 6 1, xI x1, xI x2, xI x3, xI x4, xI x5] [xI s0] w Q := by
  refine x_goN 2 (pc' := 141) (ls' := [xA 6 1, xI x1, xI x2, xI x3, xI x4, xI x5]) (st' := [xI x5]) (w' := w) rfl ?_
  exact x_ret (P := True) rfl trivial h
theorem C_grow {d : Nat} {s : xS} {k o : Nat} {x y : Int32} {w : xWd} {x5 : Int32} {Q : xMV → xWd → Prop} (h : sC s w) (hn : tn (s_T s) < 8) (hk : k ≤ 2) (ho : o < tn (s_T s)) (hx : pG (s_T s) (nI o) x) (hy : pG (s_T s) (nI o) y) (h9 : x = -9 → y = -9) (hne : x ≠ -9 → x ≠ y) (hq : ∀ w', sC (uT s (tGr (s_T s) k o x y)) w' → fC w w' → Q (xI x5) w') : xWp (d + 2) m_Tr_putOn 0 [xA 5 34, xI (nI k), xI (nI o), xU] [] w (fun a w' => xWp (d + 3) m_Vp_grow 120 [xA 6 1, xI (nI k), xI (nI o), xI x, xI y, xI x5] (x_pu a []) w' Q) := by
  refine S_Tr_putOn (by decide) (sC_R h) hn hk (Or.inr ⟨ho, rfl⟩) (fun w1 hR1 f1 => ?_)
  refine G_Vp_grow_120 (S_useToo hR1 (pC_1 h.1.2.1 hn ho hx) (fun w2 r2 hR2 f2 => ?_))
  refine G_Vp_grow_128 (S_useToo hR2 (pC_2 h.1.2.1 hn ho hx hy h9 hne) (fun w3 r3 hR3 f3 => ?_))
  refine G_Vp_grow_138 ?_
  have hf : fT 34 w w3 := fun b b1 b2 => ((f3 b b1 b2).trans (f2 b b1 b2)).trans (f1 b b1 b2)
  have g := sC_uT h hR3 hf (by rw [tUs_n, tUs_n, tPut_n]; omega)
  exact hq w3 g.1 g.2
/-! the model's side -/
theorem g1_m {T : xT} {k o u l : Nat} : tm (tUse (tPut T k o) u) l = if l = tn T then 1 else tm T l := by
  show (if l = tn T + 1 - 1 then (if l = tn T then 0 else tm T l) + 1 else (if l = tn T then 0 else tm T l)) = _
  rw [Nat.add_sub_cancel]
  by_cases e : l = tn T <;> simp [e]
theorem g1_u {T : xT} {k o u j : Nat} : tu (tUse (tPut T k o) u) j = if j = 2 * tn T then u else tu T j := by
  show (if j = 2 * (tn T + 1 - 1) + tm (tPut T k o) (tn T + 1 - 1) then u else tu T j) = _
  rw [Nat.add_sub_cancel, tPut_mn, Nat.add_zero]
theorem g2_m {T : xT} {k o u v l : Nat} : tm (tUse (tUse (tPut T k o) u) v) l = if l = tn T then 2 else tm T l := by
  show (if l = tn T + 1 - 1 then tm (tUse (tPut T k o) u) l + 1 else tm (tUse (tPut T k o) u) l) = _
  rw [Nat.add_sub_cancel, g1_m]
  by_cases e : l = tn T <;> simp [e]
theorem g2_u {T : xT} {k o u v j : Nat} : tu (tUse (tUse (tPut T k o) u) v) j = if j = 2 * tn T + 1 then v else if j = 2 * tn T then u else tu T j := by
  show (if j = 2 * (tn T + 1 - 1) + tm (tUse (tPut T k o) u) (tn T + 1 - 1) then v else tu (tUse (tPut T k o) u) j) = _
  rw [Nat.add_sub_cancel, g1_m, if_pos rfl, g1_u]
def gEl (T T' : xT) : Prop := ∀ l, l < tn T → tk T' l = tk T l ∧ ta T' l = ta T l ∧ tm T' l = tm T l ∧ ∀ i, i < tm T l → tu T' (2 * l + i) = tu T (2 * l + i)
theorem M_grT {s : xS} {w w1 w2 : xWd} {T' : xT} {k o m : Nat} {x y : Int32} {Q : xMV → xWd → Prop} (h : sM s w) (hn : tn (s_T s) < 8) (e1 : w1 = x_set w 71 (tn (s_T s)) (nI k)) (e2 : w2 = x_set w1 72 (tn (s_T s)) (nI o)) (hW : tW T') (e0 : tn T' = tn (s_T s) + 1) (el : gEl (s_T s) T') (ek : tk T' (tn (s_T s)) = k) (ea : ta T' (tn (s_T s)) = o) (em : tm T' (tn (s_T s)) = m) (hm : m ≤ 2) (ex : 0 < m → nI (tu T' (2 * tn (s_T s))) = x) (ey : 1 < m → nI (tu T' (2 * tn (s_T s) + 1)) = y) (hq : ∀ w', sM (uT s T') w' → fM w w' → Q (xI (nI (tn (s_T s)))) w') :
    vp_in (w2 2 5) 8 ∧ ∀ w3 : xWd, w3 = x_set w2 73 ((w2 2 5).toNatClampNeg) (nI m) → (vp_in (2 * (w3 2 5)) 16 ∧ ∀ w4 : xWd, w4 = x_set w3 74 ((2 * (w3 2 5)).toNatClampNeg) x → (vp_in ((2 * (w4 2 5)) + 1) 16 ∧ ∀ w5 : xWd, w5 = x_set w4 74 (((2 * (w4 2 5)) + 1).toNatClampNeg) y → (∀ w6 : xWd, w6 = x_set w5 2 5 ((w5 2 5) + 1) → Q (xI ((w6 2 5) - 1)) w6))) := by
  have hw : w 2 5 = nI (tn (s_T s)) := sM_n h
  have k2 : w2 2 5 = nI (tn (s_T s)) := by rw [e2, x_set_o (by decide), e1, x_set_o (by decide)]; exact hw
  have em2 : (2 : Int32) * nI (tn (s_T s)) = nI (2 * tn (s_T s)) := pk_mul 2 _
  rw [k2]
  refine ⟨z_in hn (by decide), fun w3 e3 => ?_⟩
  rw [z_cl' (by omega)] at e3
  have k3 : w3 2 5 = nI (tn (s_T s)) := by rw [e3, x_set_o (by decide)]; exact k2
  rw [k3, em2]
  refine ⟨z_in (by omega) (by decide), fun w4 e4 => ?_⟩
  rw [z_cl' (by omega)] at e4
  have k4 : w4 2 5 = nI (tn (s_T s)) := by rw [e4, x_set_o (by decide)]; exact k3
  rw [k4, em2, nI_1]
  refine ⟨z_in (by omega) (by decide), fun w5 e5 w6 e6 => ?_⟩
  rw [z_cl' (by omega)] at e5
  have k5 : w5 2 5 = nI (tn (s_T s)) := by rw [e5, x_set_o (by decide)]; exact k4
  rw [k5, nI_1] at e6
  have k6 : w6 2 5 = nI (tn (s_T s) + 1) := by rw [e6, x_set_s, upd_s]
  rw [k6, show nI (tn (s_T s) + 1) - 1 = nI (tn (s_T s)) from pk_sub (b := 1) (by omega)]
  have a71 : w6 71 = upd (w 71) (tn (s_T s)) (nI k) := by
    rw [e6, x_set_o (by decide), e5, x_set_o (by decide), e4, x_set_o (by decide), e3, x_set_o (by decide), e2, x_set_o (by decide), e1, x_set_s]
  have a72 : w6 72 = upd (w 72) (tn (s_T s)) (nI o) := by
    rw [e6, x_set_o (by decide), e5, x_set_o (by decide), e4, x_set_o (by decide), e3, x_set_o (by decide), e2, x_set_s, e1, x_set_o (by decide)]
  have a73 : w6 73 = upd (w 73) (tn (s_T s)) (nI m) := by
    rw [e6, x_set_o (by decide), e5, x_set_o (by decide), e4, x_set_o (by decide), e3, x_set_s, e2, x_set_o (by decide), e1, x_set_o (by decide)]
  have a74 : w6 74 = upd (upd (w 74) (2 * tn (s_T s)) x) (2 * tn (s_T s) + 1) y := by
    rw [e6, x_set_o (by decide), e5, x_set_s, e4, x_set_s, e3, x_set_o (by decide), e2, x_set_o (by decide), e1, x_set_o (by decide)]
  have hS : tS w6 T' := by
    refine ⟨⟨by rw [k6, e0], fun l hl => ?_⟩, hW⟩
    rw [e0] at hl
    rw [a71, a72, a73, a74]
    by_cases e : l = tn (s_T s)
    · subst e
      rw [upd_s, upd_s, upd_s, ek, ea, em]
      refine ⟨rfl, rfl, rfl, fun i hi => ?_⟩
      rcases (show i = 0 ∨ i = 1 by omega) with rfl | rfl
      · show upd (upd (w 74) (2 * tn (s_T s)) x) (2 * tn (s_T s) + 1) y (2 * tn (s_T s)) = nI (tu T' (2 * tn (s_T s)))
        rw [upd_o (by omega), upd_s, ex (by omega)]
      · rw [upd_s, ey (by omega)]
    · have hl' : l < tn (s_T s) := by omega
      obtain ⟨f1, f2, f3, f4⟩ := el l hl'
      obtain ⟨g1, g2, g3, g4⟩ := h.2.2.1.2 l hl'
      have hml : tm (s_T s) l ≤ 2 := (h.1.2.1.2 l hl').2.1
      rw [upd_o e, upd_o e, upd_o e, f1, f2, f3]
      refine ⟨g1, g2, g3, fun i hi => ?_⟩
      rw [upd_o (by omega), upd_o (by omega), f4 i hi]
      exact g4 i hi
  have g := sM_uT h hS (fun a b1 b2 => by rw [e6, x_set_o b1, e5, x_set_o (by omega), e4, x_set_o (by omega), e3, x_set_o (by omega), e2, x_set_o (by omega), e1, x_set_o (by omega)]) (fun j hj => by rw [e6, x_set_s, upd_o hj, e5, x_set_o (by decide), e4, x_set_o (by decide), e3, x_set_o (by decide), e2, x_set_o (by decide), e1, x_set_o (by decide)]) (by omega)
  exact hq w6 g.1 g.2
theorem G_Md_grow_0 {d : Nat} {x1 : Int32} {x2 : Int32} {x3 : Int32} {x4 : Int32} {w : xWd} {Q : xMV → xWd → Prop} (h : ((p_wi x1 0 2 → ((p_lt x2 (w 2 5) → ((x3 = (-9) → xWp (d + 2) m_Md_grow 34 [xA 7 2, xI x1, xI x2, xI x3, xI x4] [] w Q) ∧ (¬ (x3 = (-9)) → ((p_lt x3 (w 2 5) → xWp (d + 2) m_Md_grow 34 [xA 7 2, xI x1, xI x2, xI x3, xI x4] [] w Q) ∧ (¬ (p_lt x3 (w 2 5)) → Q (xI (-1)) w))))) ∧ (¬ (p_lt x2 (w 2 5)) → Q (xI (-1)) w))) ∧ (¬ (p_wi x1 0 2) → Q (xI (-2)) w))) : xWp (d + 2) m_Md_grow 0 [xA 7 2, xI x1, xI x2, xI x3, xI x4] [] w Q := by
  refine x_goN 3 (pc' := 3) (ls' := [xA 7 2, xI x1, xI x2, xI x3, xI x4]) (st' := [xI 2, xI 0, xI x1]) (w' := w) rfl ?_
  refine x_call (y := m_Md_within) (as := [xI x1, xI 0, xI 2]) (rst := []) rfl [xI x1, xI 0, xI 2] rfl ?_
  refine S_Md_within (fun c1 => ?_) (fun c1 => ?_)
  · skip
    refine x_goN 1 (pc' := if (1 : Int32) = (0 : Int32) then 9 else 12) (ls' := [xA 7 2, xI x1, xI x2, xI x3, xI x4]) (st' := []) (w' := w) rfl ?_
    refine x_brF (by decide) ?_
    refine x_goN 2 (pc' := 14) (ls' := [xA 7 2, xI x1, xI x2, xI x3, xI x4]) (st' := [xI x2, xA 7 2]) (w' := w) rfl ?_
    refine x_call (y := m_Md_isLine) (as := [xA 7 2, xI x2]) (rst := []) rfl [xA 7 2, xI x2] rfl ?_
    refine S_Md_isLine (fun c2 => ?_) (fun c2 => ?_)
    · skip
      refine x_goN 1 (pc' := if (1 : Int32) = (0 : Int32) then 56 else 20) (ls' := [xA 7 2, xI x1, xI x2, xI x3, xI x4]) (st' := []) (w' := w) rfl ?_
      refine x_brF (by decide) ?_
      refine x_goN 3 (pc' := if x3 = (-9) then 34 else 26) (ls' := [xA 7 2, xI x1, xI x2, xI x3, xI x4]) (st' := []) (w' := w) rfl ?_
      refine x_br (fun c3 => ?_) (fun c3 => ?_)
      · skip
        exact (((h.1 c1).1 c2).1 c3)
      · skip
        refine x_goN 2 (pc' := 28) (ls' := [xA 7 2, xI x1, xI x2, xI x3, xI x4]) (st' := [xI x3, xA 7 2]) (w' := w) rfl ?_
        refine x_call (y := m_Md_isLine) (as := [xA 7 2, xI x3]) (rst := []) rfl [xA 7 2, xI x3] rfl ?_
        refine S_Md_isLine (fun c4 => ?_) (fun c4 => ?_)
        · skip
          refine x_goN 1 (pc' := if (1 : Int32) = (0 : Int32) then 56 else 34) (ls' := [xA 7 2, xI x1, xI x2, xI x3, xI x4]) (st' := []) (w' := w) rfl ?_
          refine x_brF (by decide) ?_
          exact ((((h.1 c1).1 c2).2 c3).1 c4)
        · skip
          refine x_goN 1 (pc' := if (0 : Int32) = (0 : Int32) then 56 else 34) (ls' := [xA 7 2, xI x1, xI x2, xI x3, xI x4]) (st' := []) (w' := w) rfl ?_
          refine x_brT (by decide) ?_
          refine x_goN 1 (pc' := 57) (ls' := [xA 7 2, xI x1, xI x2, xI x3, xI x4]) (st' := [xI (-1)]) (w' := w) rfl ?_
          exact x_ret (P := True) rfl trivial ((((h.1 c1).1 c2).2 c3).2 c4)
    · skip
      refine x_goN 1 (pc' := if (0 : Int32) = (0 : Int32) then 56 else 20) (ls' := [xA 7 2, xI x1, xI x2, xI x3, xI x4]) (st' := []) (w' := w) rfl ?_
      refine x_brT (by decide) ?_
      refine x_goN 1 (pc' := 57) (ls' := [xA 7 2, xI x1, xI x2, xI x3, xI x4]) (st' := [xI (-1)]) (w' := w) rfl ?_
      exact x_ret (P := True) rfl trivial ((h.1 c1).2 c2)
  · skip
    refine x_goN 1 (pc' := if (0 : Int32) = (0 : Int32) then 9 else 12) (ls' := [xA 7 2, xI x1, xI x2, xI x3, xI x4]) (st' := []) (w' := w) rfl ?_
    refine x_brT (by decide) ?_
    refine x_goN 1 (pc' := 11) (ls' := [xA 7 2, xI x1, xI x2, xI x3, xI x4]) (st' := [xI (-2)]) (w' := w) rfl ?_
    exact x_ret (P := True) rfl trivial (h.2 c1)
theorem G_Md_grow_34 {d : Nat} {x1 : Int32} {x2 : Int32} {x3 : Int32} {x4 : Int32} {w : xWd} {Q : xMV → xWd → Prop} (h : ((x4 = (-9) → xWp (d + 2) m_Md_grow 58 [xA 7 2, xI x1, xI x2, xI x3, xI x4] [] w Q) ∧ (¬ (x4 = (-9)) → ((p_lt x4 (w 2 5) → ((x3 = (-9) → Q (xI (-1)) w) ∧ (¬ (x3 = (-9)) → xWp (d + 2) m_Md_grow 58 [xA 7 2, xI x1, xI x2, xI x3, xI x4] [] w Q))) ∧ (¬ (p_lt x4 (w 2 5)) → Q (xI (-1)) w))))) : xWp (d + 2) m_Md_grow 34 [xA 7 2, xI x1, xI x2, xI x3, xI x4] [] w Q := by
  refine x_goN 3 (pc' := if x4 = (-9) then 58 else 41) (ls' := [xA 7 2, xI x1, xI x2, xI x3, xI x4]) (st' := []) (w' := w) rfl ?_
  refine x_br (fun c1 => ?_) (fun c1 => ?_)
  · skip
    exact (h.1 c1)
  · skip
    refine x_goN 2 (pc' := 44) (ls' := [xA 7 2, xI x1, xI x2, xI x3, xI x4]) (st' := [xI x4, xA 7 2]) (w' := w) rfl ?_
    refine x_call (y := m_Md_isLine) (as := [xA 7 2, xI x4]) (rst := []) rfl [xA 7 2, xI x4] rfl ?_
    refine S_Md_isLine (fun c2 => ?_) (fun c2 => ?_)
    · skip
      refine x_goN 1 (pc' := if (1 : Int32) = (0 : Int32) then 56 else 50) (ls' := [xA 7 2, xI x1, xI x2, xI x3, xI x4]) (st' := []) (w' := w) rfl ?_
      refine x_brF (by decide) ?_
      refine x_goN 3 (pc' := if x3 = (-9) then 56 else 58) (ls' := [xA 7 2, xI x1, xI x2, xI x3, xI x4]) (st' := []) (w' := w) rfl ?_
      refine x_br (fun c3 => ?_) (fun c3 => ?_)
      · skip
        refine x_goN 1 (pc' := 57) (ls' := [xA 7 2, xI x1, xI x2, xI x3, xI x4]) (st' := [xI (-1)]) (w' := w) rfl ?_
        exact x_ret (P := True) rfl trivial (((h.2 c1).1 c2).1 c3)
      · skip
        exact (((h.2 c1).1 c2).2 c3)
    · skip
      refine x_goN 1 (pc' := if (0 : Int32) = (0 : Int32) then 56 else 50) (ls' := [xA 7 2, xI x1, xI x2, xI x3, xI x4]) (st' := []) (w' := w) rfl ?_
      refine x_brT (by decide) ?_
      refine x_goN 1 (pc' := 57) (ls' := [xA 7 2, xI x1, xI x2, xI x3, xI x4]) (st' := [xI (-1)]) (w' := w) rfl ?_
      exact x_ret (P := True) rfl trivial ((h.2 c1).2 c2)
theorem G_Md_grow_58 {d : Nat} {x1 : Int32} {x2 : Int32} {x3 : Int32} {x4 : Int32} {w : xWd} {Q : xMV → xWd → Prop} (h : ((x3 = (-9) → xWp (d + 2) m_Md_grow 73 [xA 7 2, xI x1, xI x2, xI x3, xI x4] [] w Q) ∧ (¬ (x3 = (-9)) → xWp (d + 1) m_Md_isAboveOr 0 [xA 7 2, xI x2, xI x3] [] w (fun a w' => xWp (d + 2) m_Md_grow 70 [xA 7 2, xI x1, xI x2, xI x3, xI x4] (x_pu a []) w' Q)))) : xWp (d + 2) m_Md_grow 58 [xA 7 2, xI x1, xI x2, xI x3, xI x4] [] w Q := by
  refine x_goN 3 (pc' := if x3 = (-9) then 73 else 64) (ls' := [xA 7 2, xI x1, xI x2, xI x3, xI x4]) (st' := []) (w' := w) rfl ?_
  refine x_br (fun c1 => ?_) (fun c1 => ?_)
  · skip
    exact (h.1 c1)
  · skip
    refine x_goN 3 (pc' := 67) (ls' := [xA 7 2, xI x1, xI x2, xI x3, xI x4]) (st' := [xI x3, xI x2, xA 7 2]) (w' := w) rfl ?_
    refine x_call (y := m_Md_isAboveOr) (as := [xA 7 2, xI x2, xI x3]) (rst := []) rfl [xA 7 2, xI x2, xI x3] rfl ?_
    exact (h.2 c1)
theorem G_Md_grow_70 {d : Nat} {x1 : Int32} {x2 : Int32} {x3 : Int32} {x4 : Int32} {s0 : Int32} {w : xWd} {Q : xMV → xWd → Prop} (h : ((s0 = 0 → Q (xI (-3)) w) ∧ (¬ (s0 = 0) → xWp (d + 2) m_Md_grow 73 [xA 7 2, xI x1, xI x2, xI x3, xI x4] [] w Q))) : xWp (d + 2) m_Md_grow 70 [xA 7 2, xI x1, xI x2, xI x3, xI x4] [xI s0] w Q := by
  refine x_goN 1 (pc' := if s0 = 0 then 96 else 73) (ls' := [xA 7 2, xI x1, xI x2, xI x3, xI x4]) (st' := []) (w' := w) rfl ?_
  refine x_br (fun c1 => ?_) (fun c1 => ?_)
  · skip
    refine x_goN 1 (pc' := 98) (ls' := [xA 7 2, xI x1, xI x2, xI x3, xI x4]) (st' := [xI (-3)]) (w' := w) rfl ?_
    exact x_ret (P := True) rfl trivial (h.1 c1)
  · skip
    exact (h.2 c1)
theorem G_Md_grow_73 {d : Nat} {x1 : Int32} {x2 : Int32} {x3 : Int32} {x4 : Int32} {w : xWd} {Q : xMV → xWd → Prop} (h : ((x4 = (-9) → xWp (d + 2) m_Md_grow 99 [xA 7 2, xI x1, xI x2, xI x3, xI x4] [] w Q) ∧ (¬ (x4 = (-9)) → xWp (d + 1) m_Md_isAboveOr 0 [xA 7 2, xI x2, xI x4] [] w (fun a w' => xWp (d + 2) m_Md_grow 87 [xA 7 2, xI x1, xI x2, xI x3, xI x4] (x_pu a []) w' Q)))) : xWp (d + 2) m_Md_grow 73 [xA 7 2, xI x1, xI x2, xI x3, xI x4] [] w Q := by
  refine x_goN 3 (pc' := if x4 = (-9) then 99 else 80) (ls' := [xA 7 2, xI x1, xI x2, xI x3, xI x4]) (st' := []) (w' := w) rfl ?_
  refine x_br (fun c1 => ?_) (fun c1 => ?_)
  · skip
    exact (h.1 c1)
  · skip
    refine x_goN 3 (pc' := 84) (ls' := [xA 7 2, xI x1, xI x2, xI x3, xI x4]) (st' := [xI x4, xI x2, xA 7 2]) (w' := w) rfl ?_
    refine x_call (y := m_Md_isAboveOr) (as := [xA 7 2, xI x2, xI x4]) (rst := []) rfl [xA 7 2, xI x2, xI x4] rfl ?_
    exact (h.2 c1)
theorem G_Md_grow_87 {d : Nat} {x1 : Int32} {x2 : Int32} {x3 : Int32} {x4 : Int32} {s0 : Int32} {w : xWd} {Q : xMV → xWd → Prop} (h : ((s0 = 0 → Q (xI (-3)) w) ∧ (¬ (s0 = 0) → ((x3 = x4 → Q (xI (-3)) w) ∧ (¬ (x3 = x4) → xWp (d + 2) m_Md_grow 99 [xA 7 2, xI x1, xI x2, xI x3, xI x4] [] w Q))))) : xWp (d + 2) m_Md_grow 87 [xA 7 2, xI x1, xI x2, xI x3, xI x4] [xI s0] w Q := by
  refine x_goN 1 (pc' := if s0 = 0 then 96 else 90) (ls' := [xA 7 2, xI x1, xI x2, xI x3, xI x4]) (st' := []) (w' := w) rfl ?_
  refine x_br (fun c1 => ?_) (fun c1 => ?_)
  · skip
    refine x_goN 1 (pc' := 98) (ls' := [xA 7 2, xI x1, xI x2, xI x3, xI x4]) (st' := [xI (-3)]) (w' := w) rfl ?_
    exact x_ret (P := True) rfl trivial (h.1 c1)
  · skip
    refine x_goN 3 (pc' := if x3 = x4 then 96 else 99) (ls' := [xA 7 2, xI x1, xI x2, xI x3, xI x4]) (st' := []) (w' := w) rfl ?_
    refine x_br (fun c2 => ?_) (fun c2 => ?_)
    · skip
      refine x_goN 1 (pc' := 98) (ls' := [xA 7 2, xI x1, xI x2, xI x3, xI x4]) (st' := [xI (-3)]) (w' := w) rfl ?_
      exact x_ret (P := True) rfl trivial ((h.2 c1).1 c2)
    · skip
      exact ((h.2 c1).2 c2)
theorem G_Md_grow_99 {d : Nat} {x1 : Int32} {x2 : Int32} {x3 : Int32} {x4 : Int32} {w : xWd} {Q : xMV → xWd → Prop} (h : ((w 2 5 = 8 → Q (xI (-4)) w) ∧ (¬ (w 2 5 = 8) → (vp_in (w 2 5) 8 ∧ ∀ w1 : xWd, w1 = x_set w 71 ((w 2 5).toNatClampNeg) x1 → (vp_in (w1 2 5) 8 ∧ ∀ w2 : xWd, w2 = x_set w1 72 ((w1 2 5).toNatClampNeg) x2 → ((x3 = (-9) → (vp_in (w2 2 5) 8 ∧ ∀ w3 : xWd, w3 = x_set w2 73 ((w2 2 5).toNatClampNeg) 0 → (vp_in (2 * (w3 2 5)) 16 ∧ ∀ w4 : xWd, w4 = x_set w3 74 ((2 * (w3 2 5)).toNatClampNeg) x3 → (vp_in ((2 * (w4 2 5)) + 1) 16 ∧ ∀ w5 : xWd, w5 = x_set w4 74 (((2 * (w4 2 5)) + 1).toNatClampNeg) x4 → (∀ w6 : xWd, w6 = x_set w5 2 5 ((w5 2 5) + 1) → Q (xI ((w6 2 5) - 1)) w6))))) ∧ (¬ (x3 = (-9)) → ((x4 = (-9) → (vp_in (w2 2 5) 8 ∧ ∀ w7 : xWd, w7 = x_set w2 73 ((w2 2 5).toNatClampNeg) 1 → (vp_in (2 * (w7 2 5)) 16 ∧ ∀ w8 : xWd, w8 = x_set w7 74 ((2 * (w7 2 5)).toNatClampNeg) x3 → (vp_in ((2 * (w8 2 5)) + 1) 16 ∧ ∀ w9 : xWd, w9 = x_set w8 74 (((2 * (w8 2 5)) + 1).toNatClampNeg) x4 → (∀ w10 : xWd, w10 = x_set w9 2 5 ((w9 2 5) + 1) → Q (xI ((w10 2 5) - 1)) w10))))) ∧ (¬ (x4 = (-9)) → (vp_in (w2 2 5) 8 ∧ ∀ w11 : xWd, w11 = x_set w2 73 ((w2 2 5).toNatClampNeg) 2 → (vp_in (2 * (w11 2 5)) 16 ∧ ∀ w12 : xWd, w12 = x_set w11 74 ((2 * (w11 2 5)).toNatClampNeg) x3 → (vp_in ((2 * (w12 2 5)) + 1) 16 ∧ ∀ w13 : xWd, w13 = x_set w12 74 (((2 * (w12 2 5)) + 1).toNatClampNeg) x4 → (∀ w14 : xWd, w14 = x_set w13 2 5 ((w13 2 5) + 1) → Q (xI ((w14 2 5) - 1)) w14))))))))))))) : xWp (d + 2) m_Md_grow 99 [xA 7 2, xI x1, xI x2, xI x3, xI x4] [] w Q := by
  refine x_goN 4 (pc' := if w 2 5 = 8 then 108 else 111) (ls' := [xA 7 2, xI x1, xI x2, xI x3, xI x4]) (st' := []) (w' := w) rfl ?_
  refine x_br (fun c1 => ?_) (fun c1 => ?_)
  · skip
    refine x_goN 1 (pc' := 110) (ls' := [xA 7 2, xI x1, xI x2, xI x3, xI x4]) (st' := [xI (-4)]) (w' := w) rfl ?_
    exact x_ret (P := True) rfl trivial (h.1 c1)
  · skip
    refine x_goN 5 (pc' := 120) (ls' := [xA 7 2, xI x1, xI x2, xI x3, xI x4]) (st' := [xI x1, xI (w 2 5), xA 108 71]) (w' := w) rfl ?_
    refine x_obW (P := vp_in (w 2 5) 8) (pc' := 121) (ls' := [xA 7 2, xI x1, xI x2, xI x3, xI x4]) (st' := []) (w' := x_set w 71 ((w 2 5).toNatClampNeg) x1) rfl (h.2 c1).1 (fun w1 ew1 => ?_)
    refine x_goN 5 (pc' := 130) (ls' := [xA 7 2, xI x1, xI x2, xI x3, xI x4]) (st' := [xI x2, xI (w1 2 5), xA 108 72]) (w' := w1) rfl ?_
    refine x_obW (P := vp_in (w1 2 5) 8) (pc' := 131) (ls' := [xA 7 2, xI x1, xI x2, xI x3, xI x4]) (st' := []) (w' := x_set w1 72 ((w1 2 5).toNatClampNeg) x2) rfl ((h.2 c1).2 w1 ew1).1 (fun w2 ew2 => ?_)
    refine x_goN 7 (pc' := if x3 = (-9) then 145 else 149) (ls' := [xA 7 2, xI x1, xI x2, xI x3, xI x4]) (st' := [xI (w2 2 5), xA 108 73]) (w' := w2) rfl ?_
    refine x_br (fun c2 => ?_) (fun c2 => ?_)
    · skip
      refine x_goN 2 (pc' := 161) (ls' := [xA 7 2, xI x1, xI x2, xI x3, xI x4]) (st' := [xI 0, xI (w2 2 5), xA 108 73]) (w' := w2) rfl ?_
      refine x_obW (P := vp_in (w2 2 5) 8) (pc' := 162) (ls' := [xA 7 2, xI x1, xI x2, xI x3, xI x4]) (st' := []) (w' := x_set w2 73 ((w2 2 5).toNatClampNeg) 0) rfl ((((h.2 c1).2 w1 ew1).2 w2 ew2).1 c2).1 (fun w3 ew3 => ?_)
      refine x_goN 7 (pc' := 173) (ls' := [xA 7 2, xI x1, xI x2, xI x3, xI x4]) (st' := [xI x3, xI (2 * (w3 2 5)), xA 116 74]) (w' := w3) rfl ?_
      refine x_obW (P := vp_in (2 * (w3 2 5)) 16) (pc' := 174) (ls' := [xA 7 2, xI x1, xI x2, xI x3, xI x4]) (st' := []) (w' := x_set w3 74 ((2 * (w3 2 5)).toNatClampNeg) x3) rfl (((((h.2 c1).2 w1 ew1).2 w2 ew2).1 c2).2 w3 ew3).1 (fun w4 ew4 => ?_)
      refine x_goN 9 (pc' := 188) (ls' := [xA 7 2, xI x1, xI x2, xI x3, xI x4]) (st' := [xI x4, xI ((2 * (w4 2 5)) + 1), xA 116 74]) (w' := w4) rfl ?_
      refine x_obW (P := vp_in ((2 * (w4 2 5)) + 1) 16) (pc' := 189) (ls' := [xA 7 2, xI x1, xI x2, xI x3, xI x4]) (st' := []) (w' := x_set w4 74 (((2 * (w4 2 5)) + 1).toNatClampNeg) x4) rfl ((((((h.2 c1).2 w1 ew1).2 w2 ew2).1 c2).2 w3 ew3).2 w4 ew4).1 (fun w5 ew5 => ?_)
      refine x_goN 5 (pc' := 196) (ls' := [xA 7 2, xI x1, xI x2, xI x3, xI x4]) (st' := [xI ((w5 2 5) + 1), xA 7 2]) (w' := w5) rfl ?_
      refine x_goW (pc' := 199) (ls' := [xA 7 2, xI x1, xI x2, xI x3, xI x4]) (st' := []) (w' := x_set w5 2 5 ((w5 2 5) + 1)) rfl (fun w6 ew6 => ?_)
      refine x_goN 4 (pc' := 205) (ls' := [xA 7 2, xI x1, xI x2, xI x3, xI x4]) (st' := [xI ((w6 2 5) - 1)]) (w' := w6) rfl ?_
      exact x_ret (P := True) rfl trivial ((((((((h.2 c1).2 w1 ew1).2 w2 ew2).1 c2).2 w3 ew3).2 w4 ew4).2 w5 ew5) w6 ew6)
    · skip
      refine x_goN 3 (pc' := if x4 = (-9) then 156 else 160) (ls' := [xA 7 2, xI x1, xI x2, xI x3, xI x4]) (st' := [xI (w2 2 5), xA 108 73]) (w' := w2) rfl ?_
      refine x_br (fun c3 => ?_) (fun c3 => ?_)
      · skip
        refine x_goN 2 (pc' := 161) (ls' := [xA 7 2, xI x1, xI x2, xI x3, xI x4]) (st' := [xI 1, xI (w2 2 5), xA 108 73]) (w' := w2) rfl ?_
        refine x_obW (P := vp_in (w2 2 5) 8) (pc' := 162) (ls' := [xA 7 2, xI x1, xI x2, xI x3, xI x4]) (st' := []) (w' := x_set w2 73 ((w2 2 5).toNatClampNeg) 1) rfl (((((h.2 c1).2 w1 ew1).2 w2 ew2).2 c2).1 c3).1 (fun w7 ew7 => ?_)
        refine x_goN 7 (pc' := 173) (ls' := [xA 7 2, xI x1, xI x2, xI x3, xI x4]) (st' := [xI x3, xI (2 * (w7 2 5)), xA 116 74]) (w' := w7) rfl ?_
        refine x_obW (P := vp_in (2 * (w7 2 5)) 16) (pc' := 174) (ls' := [xA 7 2, xI x1, xI x2, xI x3, xI x4]) (st' := []) (w' := x_set w7 74 ((2 * (w7 2 5)).toNatClampNeg) x3) rfl ((((((h.2 c1).2 w1 ew1).2 w2 ew2).2 c2).1 c3).2 w7 ew7).1 (fun w8 ew8 => ?_)
        refine x_goN 9 (pc' := 188) (ls' := [xA 7 2, xI x1, xI x2, xI x3, xI x4]) (st' := [xI x4, xI ((2 * (w8 2 5)) + 1), xA 116 74]) (w' := w8) rfl ?_
        refine x_obW (P := vp_in ((2 * (w8 2 5)) + 1) 16) (pc' := 189) (ls' := [xA 7 2, xI x1, xI x2, xI x3, xI x4]) (st' := []) (w' := x_set w8 74 (((2 * (w8 2 5)) + 1).toNatClampNeg) x4) rfl (((((((h.2 c1).2 w1 ew1).2 w2 ew2).2 c2).1 c3).2 w7 ew7).2 w8 ew8).1 (fun w9 ew9 => ?_)
        refine x_goN 5 (pc' := 196) (ls' := [xA 7 2, xI x1, xI x2, xI x3, xI x4]) (st' := [xI ((w9 2 5) + 1), xA 7 2]) (w' := w9) rfl ?_
        refine x_goW (pc' := 199) (ls' := [xA 7 2, xI x1, xI x2, xI x3, xI x4]) (st' := []) (w' := x_set w9 2 5 ((w9 2 5) + 1)) rfl (fun w10 ew10 => ?_)
        refine x_goN 4 (pc' := 205) (ls' := [xA 7 2, xI x1, xI x2, xI x3, xI x4]) (st' := [xI ((w10 2 5) - 1)]) (w' := w10) rfl ?_
        exact x_ret (P := True) rfl trivial (((((((((h.2 c1).2 w1 ew1).2 w2 ew2).2 c2).1 c3).2 w7 ew7).2 w8 ew8).2 w9 ew9) w10 ew10)
      · skip
        refine x_goN 1 (pc' := 161) (ls' := [xA 7 2, xI x1, xI x2, xI x3, xI x4]) (st' := [xI 2, xI (w2 2 5), xA 108 73]) (w' := w2) rfl ?_
        refine x_obW (P := vp_in (w2 2 5) 8) (pc' := 162) (ls' := [xA 7 2, xI x1, xI x2, xI x3, xI x4]) (st' := []) (w' := x_set w2 73 ((w2 2 5).toNatClampNeg) 2) rfl (((((h.2 c1).2 w1 ew1).2 w2 ew2).2 c2).2 c3).1 (fun w11 ew11 => ?_)
        refine x_goN 7 (pc' := 173) (ls' := [xA 7 2, xI x1, xI x2, xI x3, xI x4]) (st' := [xI x3, xI (2 * (w11 2 5)), xA 116 74]) (w' := w11) rfl ?_
        refine x_obW (P := vp_in (2 * (w11 2 5)) 16) (pc' := 174) (ls' := [xA 7 2, xI x1, xI x2, xI x3, xI x4]) (st' := []) (w' := x_set w11 74 ((2 * (w11 2 5)).toNatClampNeg) x3) rfl ((((((h.2 c1).2 w1 ew1).2 w2 ew2).2 c2).2 c3).2 w11 ew11).1 (fun w12 ew12 => ?_)
        refine x_goN 9 (pc' := 188) (ls' := [xA 7 2, xI x1, xI x2, xI x3, xI x4]) (st' := [xI x4, xI ((2 * (w12 2 5)) + 1), xA 116 74]) (w' := w12) rfl ?_
        refine x_obW (P := vp_in ((2 * (w12 2 5)) + 1) 16) (pc' := 189) (ls' := [xA 7 2, xI x1, xI x2, xI x3, xI x4]) (st' := []) (w' := x_set w12 74 (((2 * (w12 2 5)) + 1).toNatClampNeg) x4) rfl (((((((h.2 c1).2 w1 ew1).2 w2 ew2).2 c2).2 c3).2 w11 ew11).2 w12 ew12).1 (fun w13 ew13 => ?_)
        refine x_goN 5 (pc' := 196) (ls' := [xA 7 2, xI x1, xI x2, xI x3, xI x4]) (st' := [xI ((w13 2 5) + 1), xA 7 2]) (w' := w13) rfl ?_
        refine x_goW (pc' := 199) (ls' := [xA 7 2, xI x1, xI x2, xI x3, xI x4]) (st' := []) (w' := x_set w13 2 5 ((w13 2 5) + 1)) rfl (fun w14 ew14 => ?_)
        refine x_goN 4 (pc' := 205) (ls' := [xA 7 2, xI x1, xI x2, xI x3, xI x4]) (st' := [xI ((w14 2 5) - 1)]) (w' := w14) rfl ?_
        exact x_ret (P := True) rfl trivial (((((((((h.2 c1).2 w1 ew1).2 w2 ew2).2 c2).2 c3).2 w11 ew11).2 w12 ew12).2 w13 ew13) w14 ew14)
theorem M_grow {d : Nat} {s : xS} {k o : Nat} {x y : Int32} {w : xWd} {Q : xMV → xWd → Prop} (h : sM s w) (hn : tn (s_T s) < 8) (hk : k ≤ 2) (ho : o < tn (s_T s)) (hx : pG (s_T s) (nI o) x) (hy : pG (s_T s) (nI o) y) (h9 : x = -9 → y = -9) (hne : x ≠ -9 → x ≠ y) (hq : ∀ w', sM (uT s (tGr (s_T s) k o x y)) w' → fM w w' → Q (xI (nI (tn (s_T s)))) w') : xWp (d + 2) m_Md_grow 99 [xA 7 2, xI (nI k), xI (nI o), xI x, xI y] [] w Q := by
  have hW := h.1.2.1
  have hw : w 2 5 = nI (tn (s_T s)) := sM_n h
  have c1 := pC_1 (k := k) hW hn ho hx
  have c2 := pC_2 (k := k) hW hn ho hx hy h9 hne
  have hWp : tW (tPut (s_T s) k o) := tPut_W hW hn hk (Or.inr ho)
  have hWx : tW (tUs (tPut (s_T s) k o) x) := tUs_W hWp c1
  have hWy : tW (tGr (s_T s) k o x y) := tUs_W hWx c2
  refine G_Md_grow_99 ⟨fun c => ?_, fun _ => ?_⟩
  · rw [hw] at c
    have := (z_eq (b := 8) (by omega) (by decide)).mp c
    omega
  rw [hw]
  refine ⟨z_in hn (by decide), fun w1 e1 => ?_⟩
  rw [z_cl' (by omega)] at e1
  have k1 : w1 2 5 = nI (tn (s_T s)) := by rw [e1, x_set_o (by decide)]; exact hw
  rw [k1]
  refine ⟨z_in hn (by decide), fun w2 e2 => ?_⟩
  rw [z_cl' (by omega)] at e2
  have hyb : y = -9 ∨ ∃ v, v < 8 ∧ y = nI v := c2.elim Or.inl (fun ⟨v, hv, e, _⟩ => Or.inr ⟨v, hv, e⟩)
  rcases c1 with e | ⟨u, hu, e, hcu⟩
  · have e' := h9 e
    subst e
    subst e'
    have eT : tGr (s_T s) k o (-9) (-9) = tPut (s_T s) k o := by unfold tGr; rw [tUs_9, tUs_9]
    rw [eT] at hq
    exact ⟨fun _ => M_grT (m := 0) h hn e1 e2 hWp tPut_n (fun l hl => ⟨tPut_k hl, (tPut_a hl).symm, tPut_m hl, fun _ _ => rfl⟩) tPut_kn tPut_an tPut_mn (by decide) (fun q => absurd q (by decide)) (fun q => absurd q (by decide)) hq, fun c => absurd rfl c⟩
  · have n9 : ¬ nI u = -9 := fun q => z_n9 (n := u) (by omega) q.symm
    subst e
    refine ⟨fun c => absurd c n9, fun _ => ?_⟩
    rcases hyb with e' | ⟨v, hv, e'⟩
    · subst e'
      have eT : tGr (s_T s) k o (nI u) (-9) = tUse (tPut (s_T s) k o) u := by unfold tGr; rw [tUs_9, tUs_v hu]
      rw [eT] at hq hWy
      refine ⟨fun _ => M_grT (m := 1) h hn e1 e2 hWy rfl (fun l hl => ⟨tPut_k (k := k) (a := o) hl, (tPut_a (k := k) (a := o) hl).symm, by rw [g1_m, if_neg (by omega)], fun i hi => ?_⟩) (tPut_kn (k := k) (a := o)) (tPut_an (k := k) (a := o)) (by rw [g1_m, if_pos rfl]) (by decide) (fun _ => by rw [g1_u, if_pos rfl]) (fun q => absurd q (by decide)) hq, fun c => absurd rfl c⟩
      have := (hW.2 l hl).2.1
      rw [g1_u, if_neg (by omega)]
    · subst e'
      have n9v : ¬ nI v = -9 := fun q => z_n9 (n := v) (by omega) q.symm
      have eT : tGr (s_T s) k o (nI u) (nI v) = tUse (tUse (tPut (s_T s) k o) u) v := by unfold tGr; rw [tUs_v hu, tUs_v hv]
      rw [eT] at hq hWy
      refine ⟨fun c => absurd c n9v, fun _ => M_grT (m := 2) h hn e1 e2 hWy rfl (fun l hl => ⟨tPut_k (k := k) (a := o) hl, (tPut_a (k := k) (a := o) hl).symm, by rw [g2_m, if_neg (by omega)], fun i hi => ?_⟩) (tPut_kn (k := k) (a := o)) (tPut_an (k := k) (a := o)) (by rw [g2_m, if_pos rfl]) (by decide) (fun _ => by rw [g2_u, if_neg (by omega), if_pos rfl]) (fun _ => by rw [g2_u, if_pos rfl]) hq⟩
      have := (hW.2 l hl).2.1
      rw [g2_u, if_neg (by omega), if_neg (by omega)]

