/-! LINES: a text, read code by code -/
abbrev xAu : Type := Nat × Nat × xT
noncomputable def a_st (c : Int32) (P : xAu) : Option xAu :=
  if P.1 = 0 then (if c = 114 then some (1, P.2) else none)
  else if P.1 = 1 then (if c = 59 then some (2, P.2) else none)
  else if P.1 = 2 then (if c = 98 then some (3, 1, P.2.2) else if c = 100 then some (3, 2, P.2.2) else if c = 112 then some (3, 0, P.2.2) else none)
  else if P.1 = 3 then (if tn P.2.2 = 0 then (if c = 45 then some (4, P.2.1, tPut P.2.2 P.2.1 8) else none) else @ite (Option xAu) (p_lt (c - 48) (nI (tn P.2.2))) (Classical.propDecidable _) (some (4, P.2.1, tPut P.2.2 P.2.1 (c - 48).toNatClampNeg)) none)
  else (if c = 59 then (if 8 ≤ tn P.2.2 then none else some (2, P.2)) else @ite (Option xAu) (fU (c - 48) P.2.2) (Classical.propDecidable _) (some (4, P.2.1, tUse P.2.2 (c - 48).toNatClampNeg)) none)
noncomputable def a_go (F : Nat → Int32) : Nat → Nat → xAu → Nat ⊕ xT
  | 0, p, P => if P.1 = 4 then .inr P.2.2 else .inl p
  | m + 1, p, P => match a_st (F p) P with
    | none => .inl p
    | some P' => a_go F m (p + 1) P'
section AU
variable {c : Int32} {kd : Nat} {T : xT}
theorem a_st0 : a_st c (0, kd, T) = if c = 114 then some (1, kd, T) else none := if_pos rfl
theorem a_st1 : a_st c (1, kd, T) = if c = 59 then some (2, kd, T) else none := (if_neg (show ¬ (1 : Nat) = 0 by decide)).trans (if_pos rfl)
theorem a_st2 : a_st c (2, kd, T) = if c = 98 then some (3, 1, T) else if c = 100 then some (3, 2, T) else if c = 112 then some (3, 0, T) else none := (if_neg (show ¬ (2 : Nat) = 0 by decide)).trans ((if_neg (show ¬ (2 : Nat) = 1 by decide)).trans (if_pos rfl))
theorem a_st3 : a_st c (3, kd, T) = if tn T = 0 then (if c = 45 then some (4, kd, tPut T kd 8) else none) else @ite (Option xAu) (p_lt (c - 48) (nI (tn T))) (Classical.propDecidable _) (some (4, kd, tPut T kd (c - 48).toNatClampNeg)) none := (if_neg (show ¬ (3 : Nat) = 0 by decide)).trans ((if_neg (show ¬ (3 : Nat) = 1 by decide)).trans ((if_neg (show ¬ (3 : Nat) = 2 by decide)).trans (if_pos rfl)))
theorem a_st4 : a_st c (4, kd, T) = if c = 59 then (if 8 ≤ tn T then none else some (2, kd, T)) else @ite (Option xAu) (fU (c - 48) T) (Classical.propDecidable _) (some (4, kd, tUse T (c - 48).toNatClampNeg)) none := (if_neg (show ¬ (4 : Nat) = 0 by decide)).trans ((if_neg (show ¬ (4 : Nat) = 1 by decide)).trans ((if_neg (show ¬ (4 : Nat) = 2 by decide)).trans (if_neg (show ¬ (4 : Nat) = 3 by decide))))
end AU
theorem a_go_0 {F : Nat → Int32} {p : Nat} {P : xAu} : a_go F 0 p P = if P.1 = 4 then .inr P.2.2 else .inl p := rfl
theorem a_go_n {F : Nat → Int32} {m p : Nat} {P : xAu} (h : a_st (F p) P = none) : a_go F (m + 1) p P = .inl p := by
  show (match a_st (F p) P with | none => (Sum.inl p : Nat ⊕ xT) | some P' => a_go F m (p + 1) P') = _
  rw [h]
theorem a_go_s {F : Nat → Int32} {m p : Nat} {P P' : xAu} (h : a_st (F p) P = some P') : a_go F (m + 1) p P = a_go F m (p + 1) P' := by
  show (match a_st (F p) P with | none => (Sum.inl p : Nat ⊕ xT) | some P' => a_go F m (p + 1) P') = _
  rw [h]
def aOk (P : xAu) : Prop := tW P.2.2 ∧ P.2.1 ≤ 2 ∧ P.1 ≤ 4 ∧ (P.1 ≤ 1 → tn P.2.2 = 0) ∧ ((P.1 = 2 ∨ P.1 = 3) → tn P.2.2 < 8) ∧ (P.1 = 4 → 0 < tn P.2.2)
theorem aOk_i {q kd : Nat} {T : xT} (hW : tW T) (hk : kd ≤ 2) (h4 : q ≤ 4) (h1 : q ≤ 1 → tn T = 0) (h2 : (q = 2 ∨ q = 3) → tn T < 8) (h3 : q = 4 → 0 < tn T) : aOk (q, kd, T) := ⟨hW, hk, h4, h1, h2, h3⟩
def aC (w : xWd) (P : xAu) : Prop := w 36 1 = nI P.1 ∧ (P.1 = 3 → w 36 2 = nI P.2.1) ∧ tR w 35 P.2.2
def gTx (w w' : xWd) : Prop := ∀ a, a ≠ 36 → a ≠ 35 → (a < 1121 ∨ 1128 < a) → w' a = w a
theorem gTx_tr {w w1 w2 : xWd} (h : gTx w w1) (h2 : gTx w1 w2) : gTx w w2 := fun a a1 a2 a3 => (h2 a a1 a2 a3).trans (h a a1 a2 a3)
theorem gTx_fT {w w' : xWd} (h : fT 35 w w') : gTx w w' := fun a _ a2 a3 => h a a2 (by omega)
theorem gTx_36 {w w' : xWd} {j : Nat} {v : Int32} (e : w' = x_set w 36 j v) : gTx w w' := fun a a1 _ _ => by rw [e, x_set_o a1]
theorem tR_36 {w w' : xWd} {T : xT} {j : Nat} {v : Int32} (h : tR w 35 T) (e : w' = x_set w 36 j v) : tR w' 35 T := tR_fr h (by rw [e, x_set_o (by decide)]) (fun i hi => by rw [e, x_set_o (by omega)])
theorem G_Tx_movesTo_0 {d : Nat} {x1 : Int32} {x2 : Int32} {w : xWd} {Q : xMV → xWd → Prop} (h : ((x2 = 0 → ((x2 = 0 ∨ x2 = 1) ∧ Q (xI x2) w)) ∧ (¬ (x2 = 0) → (∀ w1 : xWd, w1 = x_set w 36 1 x1 → ((x2 = 0 ∨ x2 = 1) ∧ Q (xI x2) w1))))) : xWp d m_Tx_movesTo 0 [xA 4 36, xI x1, xI x2] [] w Q := by
  refine x_goN 2 (pc' := if x2 = 0 then 9 else 4) (ls' := [xA 4 36, xI x1, xI x2]) (st' := []) (w' := w) rfl ?_
  refine x_br (fun c1 => ?_) (fun c1 => ?_)
  · skip
    refine x_goN 1 (pc' := 10) (ls' := [xA 4 36, xI x1, xI x2]) (st' := [xI x2]) (w' := w) rfl ?_
    exact x_ret (P := x2 = 0 ∨ x2 = 1) rfl (h.1 c1).1 (h.1 c1).2
  · skip
    refine x_goN 2 (pc' := 6) (ls' := [xA 4 36, xI x1, xI x2]) (st' := [xI x1, xA 4 36]) (w' := w) rfl ?_
    refine x_goW (pc' := 9) (ls' := [xA 4 36, xI x1, xI x2]) (st' := []) (w' := x_set w 36 1 x1) rfl (fun w1 ew1 => ?_)
    refine x_goN 1 (pc' := 10) (ls' := [xA 4 36, xI x1, xI x2]) (st' := [xI x2]) (w' := w1) rfl ?_
    exact x_ret (P := x2 = 0 ∨ x2 = 1) rfl ((h.2 c1) w1 ew1).1 ((h.2 c1) w1 ew1).2
theorem S_mv1 {d : Nat} {x : Int32} {w : xWd} {Q : xMV → xWd → Prop} (h : ∀ w1, w1 = x_set w 36 1 x → Q (xI 1) w1) : xWp d m_Tx_movesTo 0 [xA 4 36, xI x, xI 1] [] w Q := G_Tx_movesTo_0 ⟨fun c => absurd c n_10, fun _ w1 e1 => ⟨Or.inr rfl, h w1 e1⟩⟩
theorem S_mv0 {d : Nat} {x : Int32} {w : xWd} {Q : xMV → xWd → Prop} (h : Q (xI 0) w) : xWp d m_Tx_movesTo 0 [xA 4 36, xI x, xI 0] [] w Q := G_Tx_movesTo_0 ⟨fun _ => ⟨Or.inl rfl, h⟩, fun c => absurd rfl c⟩
theorem aC_mv {w w1 : xWd} {q kd : Nat} {T : xT} (hR : tR w 35 T) (e : w1 = x_set w 36 1 (nI q)) (h3 : q = 3 → w 36 2 = nI kd) : aC w1 (q, kd, T) := ⟨by rw [e, x_set_s, upd_s], fun q3 => by rw [e, x_set_s, upd_o (by decide)]; exact h3 q3, tR_36 hR e⟩
theorem G_Tx_takesKind_0 {d : Nat} {x1 : Int32} {w : xWd} {Q : xMV → xWd → Prop} (h : ((x1 = 98 → (∀ w1 : xWd, w1 = x_set w 36 2 1 → xWp d m_Tx_movesTo 0 [xA 4 36, xI 3, xI 1] [] w1 (fun a w' => xWp (d + 1) m_Tx_takesKind 68 [xA 4 36, xI x1] (x_pu a []) w' Q))) ∧ (¬ (x1 = 98) → ((x1 = 100 → (∀ w2 : xWd, w2 = x_set w 36 2 2 → xWp d m_Tx_movesTo 0 [xA 4 36, xI 3, xI 1] [] w2 (fun a w' => xWp (d + 1) m_Tx_takesKind 68 [xA 4 36, xI x1] (x_pu a []) w' Q))) ∧ (¬ (x1 = 100) → ((x1 = 112 → (∀ w3 : xWd, w3 = x_set w 36 2 0 → xWp d m_Tx_movesTo 0 [xA 4 36, xI 3, xI 1] [] w3 (fun a w' => xWp (d + 1) m_Tx_takesKind 68 [xA 4 36, xI x1] (x_pu a []) w' Q))) ∧ (¬ (x1 = 112) → Q (xI 0) w))))))) : xWp (d + 1) m_Tx_takesKind 0 [xA 4 36, xI x1] [] w Q := by
  refine x_goN 2 (pc' := if x1 = 98 then 44 else if x1 = 100 then 52 else if x1 = 112 then 36 else 60) (ls' := [xA 4 36, xI x1]) (st' := []) (w' := w) rfl ?_
  refine x_br (fun c1 => ?_) (fun c1 => ?_)
  · skip
    refine x_goN 2 (pc' := 46) (ls' := [xA 4 36, xI x1]) (st' := [xI 1, xA 4 36]) (w' := w) rfl ?_
    refine x_goW (pc' := 49) (ls' := [xA 4 36, xI x1]) (st' := []) (w' := x_set w 36 2 1) rfl (fun w1 ew1 => ?_)
    refine x_goN 4 (pc' := 65) (ls' := [xA 4 36, xI x1]) (st' := [xI 1, xI 3, xA 4 36]) (w' := w1) rfl ?_
    refine x_call (y := m_Tx_movesTo) (as := [xA 4 36, xI 3, xI 1]) (rst := []) rfl [xA 4 36, xI 3, xI 1] rfl ?_
    exact ((h.1 c1) w1 ew1)
  · skip
    refine x_br (fun c2 => ?_) (fun c2 => ?_)
    · skip
      refine x_goN 2 (pc' := 54) (ls' := [xA 4 36, xI x1]) (st' := [xI 2, xA 4 36]) (w' := w) rfl ?_
      refine x_goW (pc' := 57) (ls' := [xA 4 36, xI x1]) (st' := []) (w' := x_set w 36 2 2) rfl (fun w2 ew2 => ?_)
      refine x_goN 4 (pc' := 65) (ls' := [xA 4 36, xI x1]) (st' := [xI 1, xI 3, xA 4 36]) (w' := w2) rfl ?_
      refine x_call (y := m_Tx_movesTo) (as := [xA 4 36, xI 3, xI 1]) (rst := []) rfl [xA 4 36, xI 3, xI 1] rfl ?_
      exact (((h.2 c1).1 c2) w2 ew2)
    · skip
      refine x_br (fun c3 => ?_) (fun c3 => ?_)
      · skip
        refine x_goN 2 (pc' := 38) (ls' := [xA 4 36, xI x1]) (st' := [xI 0, xA 4 36]) (w' := w) rfl ?_
        refine x_goW (pc' := 41) (ls' := [xA 4 36, xI x1]) (st' := []) (w' := x_set w 36 2 0) rfl (fun w3 ew3 => ?_)
        refine x_goN 4 (pc' := 65) (ls' := [xA 4 36, xI x1]) (st' := [xI 1, xI 3, xA 4 36]) (w' := w3) rfl ?_
        refine x_call (y := m_Tx_movesTo) (as := [xA 4 36, xI 3, xI 1]) (rst := []) rfl [xA 4 36, xI 3, xI 1] rfl ?_
        exact ((((h.2 c1).2 c2).1 c3) w3 ew3)
      · skip
        refine x_goN 1 (pc' := 61) (ls' := [xA 4 36, xI x1]) (st' := [xI 0]) (w' := w) rfl ?_
        exact x_ret (P := (0 : Int32) = 0 ∨ (0 : Int32) = 1) rfl (by decide) (((h.2 c1).2 c2).2 c3)
theorem G_Tx_takesKind_68 {d : Nat} {x1 : Int32} {s0 : Int32} {w : xWd} {Q : xMV → xWd → Prop} (h : ((s0 = 0 ∨ s0 = 1) ∧ Q (xI s0) w)) : xWp (d + 1) m_Tx_takesKind 68 [xA 4 36, xI x1] [xI s0] w Q := by
  exact x_ret (P := s0 = 0 ∨ s0 = 1) rfl h.1 h.2
theorem G_Tx_takesAbove_0 {d : Nat} {x1 : Int32} {w : xWd} {Q : xMV → xWd → Prop} (h : ((w 35 8 = 0 → ((x1 = 45 → xWp (d + 1) m_Tr_putOn 0 [xA 5 35, xI (w 36 2), xI 8, xU] [] w (fun a w' => xWp (d + 2) m_Tx_takesAbove 75 [xA 4 36, xI x1, xI 1, xI (x1 - 48), xI 1] (x_pu a []) w' Q)) ∧ (¬ (x1 = 45) → xWp (d + 2) m_Tx_takesAbove 75 [xA 4 36, xI x1, xI 1, xI (x1 - 48), xI 0] [] w Q))) ∧ (¬ (w 35 8 = 0) → ((p_lt (x1 - 48) (w 35 8) → xWp (d + 1) m_Tr_putOn 0 [xA 5 35, xI (w 36 2), xI (x1 - 48), xU] [] w (fun a w' => xWp (d + 2) m_Tx_takesAbove 75 [xA 4 36, xI x1, xI 0, xI (x1 - 48), xI 1] (x_pu a []) w' Q)) ∧ (¬ (p_lt (x1 - 48) (w 35 8)) → xWp (d + 2) m_Tx_takesAbove 75 [xA 4 36, xI x1, xI 0, xI (x1 - 48), xI 0] [] w Q))))) : xWp (d + 2) m_Tx_takesAbove 0 [xA 4 36, xI x1, xU, xU, xU] [] w Q := by
  refine x_goN 4 (pc' := if w 35 8 = 0 then 10 else 14) (ls' := [xA 4 36, xI x1, xU, xU, xU]) (st' := []) (w' := w) rfl ?_
  refine x_br (fun c1 => ?_) (fun c1 => ?_)
  · skip
    refine x_goN 9 (pc' := if (1 : Int32) = (0 : Int32) then 39 else 25) (ls' := [xA 4 36, xI x1, xI 1, xI (x1 - 48), xU]) (st' := []) (w' := w) rfl ?_
    refine x_brF (by decide) ?_
    refine x_goN 3 (pc' := if x1 = 45 then 31 else 35) (ls' := [xA 4 36, xI x1, xI 1, xI (x1 - 48), xU]) (st' := []) (w' := w) rfl ?_
    refine x_br (fun c2 => ?_) (fun c2 => ?_)
    · skip
      refine x_goN 5 (pc' := if (1 : Int32) = (0 : Int32) then 75 else 54) (ls' := [xA 4 36, xI x1, xI 1, xI (x1 - 48), xI 1]) (st' := []) (w' := w) rfl ?_
      refine x_brF (by decide) ?_
      refine x_goN 6 (pc' := if (1 : Int32) = (0 : Int32) then 71 else 66) (ls' := [xA 4 36, xI x1, xI 1, xI (x1 - 48), xI 1]) (st' := [xI (w 36 2), xA 5 35]) (w' := w) rfl ?_
      refine x_brF (by decide) ?_
      refine x_goN 2 (pc' := 72) (ls' := [xA 4 36, xI x1, xI 1, xI (x1 - 48), xI 1]) (st' := [xI 8, xI (w 36 2), xA 5 35]) (w' := w) rfl ?_
      refine x_call (y := m_Tr_putOn) (as := [xA 5 35, xI (w 36 2), xI 8]) (rst := []) rfl [xA 5 35, xI (w 36 2), xI 8, xU] rfl ?_
      exact ((h.1 c1).1 c2)
    · skip
      refine x_goN 5 (pc' := if (0 : Int32) = (0 : Int32) then 75 else 54) (ls' := [xA 4 36, xI x1, xI 1, xI (x1 - 48), xI 0]) (st' := []) (w' := w) rfl ?_
      refine x_brT (by decide) ?_
      exact ((h.1 c1).2 c2)
  · skip
    refine x_goN 8 (pc' := if (0 : Int32) = (0 : Int32) then 39 else 25) (ls' := [xA 4 36, xI x1, xI 0, xI (x1 - 48), xU]) (st' := []) (w' := w) rfl ?_
    refine x_brT (by decide) ?_
    refine x_goN 3 (pc' := 44) (ls' := [xA 4 36, xI x1, xI 0, xI (x1 - 48), xU]) (st' := [xI (x1 - 48), xA 5 35]) (w' := w) rfl ?_
    refine x_call (y := m_Tr_isLine) (as := [xA 5 35, xI (x1 - 48)]) (rst := []) rfl [xA 5 35, xI (x1 - 48)] rfl ?_
    refine S_Tr_isLine (fun c3 => ?_) (fun c3 => ?_)
    · skip
      refine x_goN 3 (pc' := if (1 : Int32) = (0 : Int32) then 75 else 54) (ls' := [xA 4 36, xI x1, xI 0, xI (x1 - 48), xI 1]) (st' := []) (w' := w) rfl ?_
      refine x_brF (by decide) ?_
      refine x_goN 6 (pc' := if (0 : Int32) = (0 : Int32) then 71 else 66) (ls' := [xA 4 36, xI x1, xI 0, xI (x1 - 48), xI 1]) (st' := [xI (w 36 2), xA 5 35]) (w' := w) rfl ?_
      refine x_brT (by decide) ?_
      refine x_goN 1 (pc' := 72) (ls' := [xA 4 36, xI x1, xI 0, xI (x1 - 48), xI 1]) (st' := [xI (x1 - 48), xI (w 36 2), xA 5 35]) (w' := w) rfl ?_
      refine x_call (y := m_Tr_putOn) (as := [xA 5 35, xI (w 36 2), xI (x1 - 48)]) (rst := []) rfl [xA 5 35, xI (w 36 2), xI (x1 - 48), xU] rfl ?_
      exact ((h.2 c1).1 c3)
    · skip
      refine x_goN 3 (pc' := if (0 : Int32) = (0 : Int32) then 75 else 54) (ls' := [xA 4 36, xI x1, xI 0, xI (x1 - 48), xI 0]) (st' := []) (w' := w) rfl ?_
      refine x_brT (by decide) ?_
      exact ((h.2 c1).2 c3)
theorem G_Tx_takesAbove_75 {d : Nat} {x1 : Int32} {x2 : Int32} {x3 : Int32} {x4 : Int32} {w : xWd} {Q : xMV → xWd → Prop} (h : xWp (d + 1) m_Tx_movesTo 0 [xA 4 36, xI 4, xI x4] [] w (fun a w' => xWp (d + 2) m_Tx_takesAbove 82 [xA 4 36, xI x1, xI x2, xI x3, xI x4] (x_pu a []) w' Q)) : xWp (d + 2) m_Tx_takesAbove 75 [xA 4 36, xI x1, xI x2, xI x3, xI x4] [] w Q := by
  refine x_goN 3 (pc' := 79) (ls' := [xA 4 36, xI x1, xI x2, xI x3, xI x4]) (st' := [xI x4, xI 4, xA 4 36]) (w' := w) rfl ?_
  refine x_call (y := m_Tx_movesTo) (as := [xA 4 36, xI 4, xI x4]) (rst := []) rfl [xA 4 36, xI 4, xI x4] rfl ?_
  exact h
theorem G_Tx_takesAbove_82 {d : Nat} {x1 : Int32} {x2 : Int32} {x3 : Int32} {x4 : Int32} {s0 : Int32} {w : xWd} {Q : xMV → xWd → Prop} (h : ((s0 = 0 ∨ s0 = 1) ∧ Q (xI s0) w)) : xWp (d + 2) m_Tx_takesAbove 82 [xA 4 36, xI x1, xI x2, xI x3, xI x4] [xI s0] w Q := by
  exact x_ret (P := s0 = 0 ∨ s0 = 1) rfl h.1 h.2
theorem G_Tx_takesUsed_0 {d : Nat} {x1 : Int32} {w : xWd} {Q : xMV → xWd → Prop} (h : ((x1 = 59 → ((8 ≤ w 35 8 → xWp (d + 2) m_Tx_movesTo 0 [xA 4 36, xI 2, xI 0] [] w (fun a w' => xWp (d + 3) m_Tx_takesUsed 28 [xA 4 36, xI x1] (x_pu a []) w' Q)) ∧ (¬ (8 ≤ w 35 8) → xWp (d + 2) m_Tx_movesTo 0 [xA 4 36, xI 2, xI 1] [] w (fun a w' => xWp (d + 3) m_Tx_takesUsed 28 [xA 4 36, xI x1] (x_pu a []) w' Q)))) ∧ (¬ (x1 = 59) → xWp (d + 2) m_Tr_useToo 0 [xA 5 35, xI (x1 - 48), xU] [] w (fun a w' => xWp (d + 3) m_Tx_takesUsed 40 [xA 4 36, xI x1] (x_pu a []) w' Q)))) : xWp (d + 3) m_Tx_takesUsed 0 [xA 4 36, xI x1] [] w Q := by
  refine x_goN 3 (pc' := if x1 = 59 then 6 else 29) (ls' := [xA 4 36, xI x1]) (st' := []) (w' := w) rfl ?_
  refine x_br (fun c1 => ?_) (fun c1 => ?_)
  · skip
    refine x_goN 7 (pc' := if 8 ≤ w 35 8 then 24 else 20) (ls' := [xA 4 36, xI x1]) (st' := [xI 2, xA 4 36]) (w' := w) rfl ?_
    refine x_br (fun c2 => ?_) (fun c2 => ?_)
    · skip
      refine x_goN 1 (pc' := 25) (ls' := [xA 4 36, xI x1]) (st' := [xI 0, xI 2, xA 4 36]) (w' := w) rfl ?_
      refine x_call (y := m_Tx_movesTo) (as := [xA 4 36, xI 2, xI 0]) (rst := []) rfl [xA 4 36, xI 2, xI 0] rfl ?_
      exact ((h.1 c1).1 c2)
    · skip
      refine x_goN 2 (pc' := 25) (ls' := [xA 4 36, xI x1]) (st' := [xI 1, xI 2, xA 4 36]) (w' := w) rfl ?_
      refine x_call (y := m_Tx_movesTo) (as := [xA 4 36, xI 2, xI 1]) (rst := []) rfl [xA 4 36, xI 2, xI 1] rfl ?_
      exact ((h.1 c1).2 c2)
  · skip
    refine x_goN 5 (pc' := 37) (ls' := [xA 4 36, xI x1]) (st' := [xI (x1 - 48), xA 5 35]) (w' := w) rfl ?_
    refine x_call (y := m_Tr_useToo) (as := [xA 5 35, xI (x1 - 48)]) (rst := []) rfl [xA 5 35, xI (x1 - 48), xU] rfl ?_
    exact (h.2 c1)
theorem G_Tx_takesUsed_28 {d : Nat} {x1 : Int32} {s0 : Int32} {w : xWd} {Q : xMV → xWd → Prop} (h : ((s0 = 0 ∨ s0 = 1) ∧ Q (xI s0) w)) : xWp (d + 3) m_Tx_takesUsed 28 [xA 4 36, xI x1] [xI s0] w Q := by
  exact x_ret (P := s0 = 0 ∨ s0 = 1) rfl h.1 h.2
theorem G_Tx_takesUsed_40 {d : Nat} {x1 : Int32} {s0 : Int32} {w : xWd} {Q : xMV → xWd → Prop} (h : ((s0 = 0 ∨ s0 = 1) ∧ Q (xI s0) w)) : xWp (d + 3) m_Tx_takesUsed 40 [xA 4 36, xI x1] [xI s0] w Q := by
  exact x_ret (P := s0 = 0 ∨ s0 = 1) rfl h.1 h.2
theorem G_Tx_goesOnWith_0 {d : Nat} {x1 : Int32} {w : xWd} {Q : xMV → xWd → Prop} (h : ((w 36 1 = 0 → ((x1 = 114 → xWp (d + 3) m_Tx_movesTo 0 [xA 4 36, xI 1, xI 1] [] w (fun a w' => xWp (d + 4) m_Tx_goesOnWith 52 [xA 4 36, xI x1] (x_pu a []) w' Q)) ∧ (¬ (x1 = 114) → xWp (d + 3) m_Tx_movesTo 0 [xA 4 36, xI 1, xI 0] [] w (fun a w' => xWp (d + 4) m_Tx_goesOnWith 52 [xA 4 36, xI x1] (x_pu a []) w' Q)))) ∧ (¬ (w 36 1 = 0) → ((w 36 1 = 1 → ((x1 = 59 → xWp (d + 3) m_Tx_movesTo 0 [xA 4 36, xI 2, xI 1] [] w (fun a w' => xWp (d + 4) m_Tx_goesOnWith 69 [xA 4 36, xI x1] (x_pu a []) w' Q)) ∧ (¬ (x1 = 59) → xWp (d + 3) m_Tx_movesTo 0 [xA 4 36, xI 2, xI 0] [] w (fun a w' => xWp (d + 4) m_Tx_goesOnWith 69 [xA 4 36, xI x1] (x_pu a []) w' Q)))) ∧ (¬ (w 36 1 = 1) → ((w 36 1 = 2 → xWp (d + 3) m_Tx_takesKind 0 [xA 4 36, xI x1] [] w (fun a w' => xWp (d + 4) m_Tx_goesOnWith 75 [xA 4 36, xI x1] (x_pu a []) w' Q)) ∧ (¬ (w 36 1 = 2) → ((w 36 1 = 3 → xWp (d + 3) m_Tx_takesAbove 0 [xA 4 36, xI x1, xU, xU, xU] [] w (fun a w' => xWp (d + 4) m_Tx_goesOnWith 81 [xA 4 36, xI x1] (x_pu a []) w' Q)) ∧ (¬ (w 36 1 = 3) → xWp (d + 3) m_Tx_takesUsed 0 [xA 4 36, xI x1] [] w (fun a w' => xWp (d + 4) m_Tx_goesOnWith 87 [xA 4 36, xI x1] (x_pu a []) w' Q)))))))))) : xWp (d + 4) m_Tx_goesOnWith 0 [xA 4 36, xI x1] [] w Q := by
  refine x_goN 3 (pc' := if w 36 1 = 0 then 36 else if w 36 1 = 1 then 53 else if w 36 1 = 2 then 70 else if w 36 1 = 3 then 76 else 82) (ls' := [xA 4 36, xI x1]) (st' := []) (w' := w) rfl ?_
  refine x_br (fun c1 => ?_) (fun c1 => ?_)
  · skip
    refine x_goN 5 (pc' := if x1 = 114 then 44 else 48) (ls' := [xA 4 36, xI x1]) (st' := [xI 1, xA 4 36]) (w' := w) rfl ?_
    refine x_br (fun c2 => ?_) (fun c2 => ?_)
    · skip
      refine x_goN 2 (pc' := 49) (ls' := [xA 4 36, xI x1]) (st' := [xI 1, xI 1, xA 4 36]) (w' := w) rfl ?_
      refine x_call (y := m_Tx_movesTo) (as := [xA 4 36, xI 1, xI 1]) (rst := []) rfl [xA 4 36, xI 1, xI 1] rfl ?_
      exact ((h.1 c1).1 c2)
    · skip
      refine x_goN 1 (pc' := 49) (ls' := [xA 4 36, xI x1]) (st' := [xI 0, xI 1, xA 4 36]) (w' := w) rfl ?_
      refine x_call (y := m_Tx_movesTo) (as := [xA 4 36, xI 1, xI 0]) (rst := []) rfl [xA 4 36, xI 1, xI 0] rfl ?_
      exact ((h.1 c1).2 c2)
  · skip
    refine x_br (fun c3 => ?_) (fun c3 => ?_)
    · skip
      refine x_goN 5 (pc' := if x1 = 59 then 61 else 65) (ls' := [xA 4 36, xI x1]) (st' := [xI 2, xA 4 36]) (w' := w) rfl ?_
      refine x_br (fun c4 => ?_) (fun c4 => ?_)
      · skip
        refine x_goN 2 (pc' := 66) (ls' := [xA 4 36, xI x1]) (st' := [xI 1, xI 2, xA 4 36]) (w' := w) rfl ?_
        refine x_call (y := m_Tx_movesTo) (as := [xA 4 36, xI 2, xI 1]) (rst := []) rfl [xA 4 36, xI 2, xI 1] rfl ?_
        exact (((h.2 c1).1 c3).1 c4)
      · skip
        refine x_goN 1 (pc' := 66) (ls' := [xA 4 36, xI x1]) (st' := [xI 0, xI 2, xA 4 36]) (w' := w) rfl ?_
        refine x_call (y := m_Tx_movesTo) (as := [xA 4 36, xI 2, xI 0]) (rst := []) rfl [xA 4 36, xI 2, xI 0] rfl ?_
        exact (((h.2 c1).1 c3).2 c4)
    · skip
      refine x_br (fun c5 => ?_) (fun c5 => ?_)
      · skip
        refine x_goN 2 (pc' := 72) (ls' := [xA 4 36, xI x1]) (st' := [xI x1, xA 4 36]) (w' := w) rfl ?_
        refine x_call (y := m_Tx_takesKind) (as := [xA 4 36, xI x1]) (rst := []) rfl [xA 4 36, xI x1] rfl ?_
        exact (((h.2 c1).2 c3).1 c5)
      · skip
        refine x_br (fun c6 => ?_) (fun c6 => ?_)
        · skip
          refine x_goN 2 (pc' := 78) (ls' := [xA 4 36, xI x1]) (st' := [xI x1, xA 4 36]) (w' := w) rfl ?_
          refine x_call (y := m_Tx_takesAbove) (as := [xA 4 36, xI x1]) (rst := []) rfl [xA 4 36, xI x1, xU, xU, xU] rfl ?_
          exact ((((h.2 c1).2 c3).2 c5).1 c6)
        · skip
          refine x_goN 2 (pc' := 84) (ls' := [xA 4 36, xI x1]) (st' := [xI x1, xA 4 36]) (w' := w) rfl ?_
          refine x_call (y := m_Tx_takesUsed) (as := [xA 4 36, xI x1]) (rst := []) rfl [xA 4 36, xI x1] rfl ?_
          exact ((((h.2 c1).2 c3).2 c5).2 c6)
theorem G_Tx_goesOnWith_52 {d : Nat} {x1 : Int32} {s0 : Int32} {w : xWd} {Q : xMV → xWd → Prop} (h : ((s0 = 0 ∨ s0 = 1) ∧ Q (xI s0) w)) : xWp (d + 4) m_Tx_goesOnWith 52 [xA 4 36, xI x1] [xI s0] w Q := by
  exact x_ret (P := s0 = 0 ∨ s0 = 1) rfl h.1 h.2
theorem G_Tx_goesOnWith_69 {d : Nat} {x1 : Int32} {s0 : Int32} {w : xWd} {Q : xMV → xWd → Prop} (h : ((s0 = 0 ∨ s0 = 1) ∧ Q (xI s0) w)) : xWp (d + 4) m_Tx_goesOnWith 69 [xA 4 36, xI x1] [xI s0] w Q := by
  exact x_ret (P := s0 = 0 ∨ s0 = 1) rfl h.1 h.2
theorem G_Tx_goesOnWith_75 {d : Nat} {x1 : Int32} {s0 : Int32} {w : xWd} {Q : xMV → xWd → Prop} (h : ((s0 = 0 ∨ s0 = 1) ∧ Q (xI s0) w)) : xWp (d + 4) m_Tx_goesOnWith 75 [xA 4 36, xI x1] [xI s0] w Q := by
  exact x_ret (P := s0 = 0 ∨ s0 = 1) rfl h.1 h.2
theorem G_Tx_goesOnWith_81 {d : Nat} {x1 : Int32} {s0 : Int32} {w : xWd} {Q : xMV → xWd → Prop} (h : ((s0 = 0 ∨ s0 = 1) ∧ Q (xI s0) w)) : xWp (d + 4) m_Tx_goesOnWith 81 [xA 4 36, xI x1] [xI s0] w Q := by
  exact x_ret (P := s0 = 0 ∨ s0 = 1) rfl h.1 h.2
theorem G_Tx_goesOnWith_87 {d : Nat} {x1 : Int32} {s0 : Int32} {w : xWd} {Q : xMV → xWd → Prop} (h : ((s0 = 0 ∨ s0 = 1) ∧ Q (xI s0) w)) : xWp (d + 4) m_Tx_goesOnWith 87 [xA 4 36, xI x1] [xI s0] w Q := by
  exact x_ret (P := s0 = 0 ∨ s0 = 1) rfl h.1 h.2
theorem S_Tx_goesOnWith {d : Nat} {c : Int32} {P : xAu} {w : xWd} {Q : xMV → xWd → Prop} (hP : aOk P) (hw : aC w P) (h1 : ∀ (P' : xAu) (w' : xWd), a_st c P = some P' → aOk P' → gTx w w' → aC w' P' → Q (xI 1) w') (h2 : a_st c P = none → Q (xI 0) w) : xWp (d + 4) m_Tx_goesOnWith 0 [xA 4 36, xI c] [] w Q := by
  obtain ⟨q, kd, T⟩ := P
  obtain ⟨b1, b2, hR⟩ := hw
  obtain ⟨oW, ok, o4, o1, o23, o44⟩ := hP
  have b1' : w 36 1 = nI q := b1
  have hR' : tR w 35 T := hR
  have oW' : tW T := oW
  have ok' : kd ≤ 2 := ok
  have h8 := tR_n8 hR'
  have hn : w 35 8 = nI (tn T) := hR'.1.1
  refine G_Tx_goesOnWith_0 ?_
  rw [b1']
  have o4' : q ≤ 4 := o4
  rcases (show q = 0 ∨ q = 1 ∨ q = 2 ∨ q = 3 ∨ q = 4 by omega) with rfl | rfl | rfl | rfl | rfl
  · have t0 : tn T = 0 := o1 (show (0 : Nat) ≤ 1 by decide)
    rw [a_st0] at h1 h2
    refine ⟨fun _ => ⟨fun e => ?_, fun e => ?_⟩, fun c => absurd rfl c⟩
    · rw [if_pos e] at h1
      exact S_mv1 (fun w1 e1 => G_Tx_goesOnWith_52 ⟨Or.inr rfl, h1 _ w1 rfl (aOk_i oW' ok' (by decide) (fun _ => t0) (fun q => absurd q (by decide)) (fun q => absurd q (by decide))) (gTx_36 e1) (aC_mv hR' e1 (fun q => absurd q (by decide)))⟩)
    · rw [if_neg e] at h2
      exact S_mv0 (G_Tx_goesOnWith_52 ⟨Or.inl rfl, h2 rfl⟩)
  · have t0 : tn T = 0 := o1 (show (1 : Nat) ≤ 1 by decide)
    rw [a_st1] at h1 h2
    refine ⟨fun c => absurd c (by decide), fun _ => ⟨fun _ => ⟨fun e => ?_, fun e => ?_⟩, fun c => absurd rfl c⟩⟩
    · rw [if_pos e] at h1
      exact S_mv1 (fun w1 e1 => G_Tx_goesOnWith_69 ⟨Or.inr rfl, h1 _ w1 rfl (aOk_i oW' ok' (by decide) (fun q => absurd q (by decide)) (fun _ => by show tn T < 8; omega) (fun q => absurd q (by decide))) (gTx_36 e1) (aC_mv hR' e1 (fun q => absurd q (by decide)))⟩)
    · rw [if_neg e] at h2
      exact S_mv0 (G_Tx_goesOnWith_69 ⟨Or.inl rfl, h2 rfl⟩)
  · have t8 : tn T < 8 := o23 (Or.inl rfl)
    rw [a_st2] at h1 h2
    have fin : ∀ (k' : Nat) (w1 : xWd), k' ≤ 2 → w1 = x_set w 36 2 (nI k') → (∀ (w' : xWd), aOk (3, k', T) → gTx w w' → aC w' (3, k', T) → Q (xI 1) w') → xWp (d + 2) m_Tx_movesTo 0 [xA 4 36, xI 3, xI 1] [] w1 (fun a w' => xWp (d + 3) m_Tx_takesKind 68 [xA 4 36, xI c] (x_pu a []) w' (fun a w' => xWp (d + 4) m_Tx_goesOnWith 75 [xA 4 36, xI c] (x_pu a []) w' Q)) := by
      intro k' w1 hk e1 K
      refine S_mv1 (fun w2 e2 => G_Tx_takesKind_68 ⟨Or.inr rfl, G_Tx_goesOnWith_75 ⟨Or.inr rfl, K w2 (aOk_i oW' hk (by decide) (fun q => absurd q (by decide)) (fun _ => t8) (fun q => absurd q (by decide))) (gTx_tr (gTx_36 e1) (gTx_36 e2)) (aC_mv (tR_36 hR' e1) e2 (fun _ => by rw [e1, x_set_s, upd_s]))⟩⟩)
    refine ⟨fun c => absurd c (by decide), fun _ => ⟨fun c => absurd c (by decide), fun _ => ⟨fun _ => ?_, fun c => absurd rfl c⟩⟩⟩
    refine G_Tx_takesKind_0 ⟨fun e w1 e1 => ?_, fun n1 => ⟨fun e w1 e1 => ?_, fun n2 => ⟨fun e w1 e1 => ?_, fun n3 => ?_⟩⟩⟩
    · rw [if_pos e] at h1
      exact fin 1 w1 (by decide) e1 (fun w' => h1 _ w' rfl)
    · rw [if_neg n1, if_pos e] at h1
      exact fin 2 w1 (by decide) e1 (fun w' => h1 _ w' rfl)
    · rw [if_neg n1, if_neg n2, if_pos e] at h1
      exact fin 0 w1 (by decide) e1 (fun w' => h1 _ w' rfl)
    · rw [if_neg n1, if_neg n2, if_neg n3] at h2
      exact G_Tx_goesOnWith_75 ⟨Or.inl rfl, h2 rfl⟩
  · have t8 : tn T < 8 := o23 (Or.inr rfl)
    have bk : w 36 2 = nI kd := b2 rfl
    rw [a_st3] at h1 h2
    have fin : ∀ (a : Nat) (w1 : xWd) (x2 x3 : Int32), tW (tPut T kd a) → tR w1 35 (tPut T kd a) → gTx w w1 → (∀ (w' : xWd), aOk (4, kd, tPut T kd a) → gTx w w' → aC w' (4, kd, tPut T kd a) → Q (xI 1) w') → xWp (d + 3) m_Tx_takesAbove 75 [xA 4 36, xI c, xI x2, xI x3, xI 1] [] w1 (fun a w' => xWp (d + 4) m_Tx_goesOnWith 81 [xA 4 36, xI c] (x_pu a []) w' Q) := by
      intro a w1 x2 x3 hW1 hR1 g1 K
      refine G_Tx_takesAbove_75 (S_mv1 (fun w2 e2 => G_Tx_takesAbove_82 ⟨Or.inr rfl, G_Tx_goesOnWith_81 ⟨Or.inr rfl, K w2 (aOk_i hW1 ok' (by decide) (fun q => absurd q (by decide)) (fun q => absurd q (by decide)) (fun _ => by show 0 < tn (tPut T kd a); rw [tPut_n]; omega)) (gTx_tr g1 (gTx_36 e2)) (aC_mv hR1 e2 (fun q => absurd q (by decide)))⟩⟩))
    have no : ∀ (x2 x3 : Int32), Q (xI 0) w → xWp (d + 3) m_Tx_takesAbove 75 [xA 4 36, xI c, xI x2, xI x3, xI 0] [] w (fun a w' => xWp (d + 4) m_Tx_goesOnWith 81 [xA 4 36, xI c] (x_pu a []) w' Q) := fun x2 x3 K => G_Tx_takesAbove_75 (S_mv0 (G_Tx_takesAbove_82 ⟨Or.inl rfl, G_Tx_goesOnWith_81 ⟨Or.inl rfl, K⟩⟩))
    refine ⟨fun c => absurd c (by decide), fun _ => ⟨fun c => absurd c (by decide), fun _ => ⟨fun c => absurd c (by decide), fun _ => ⟨fun _ => ?_, fun c => absurd rfl c⟩⟩⟩⟩
    refine G_Tx_takesAbove_0 ?_
    rw [hn, bk, z_eq0 (by omega)]
    refine ⟨fun t0 => ⟨fun e => ?_, fun e => ?_⟩, fun t0 => ⟨fun e => ?_, fun e => ?_⟩⟩
    · rw [if_pos t0, if_pos e] at h1
      exact S_Tr_putOn (a := 8) (by decide) hR' t8 ok' (Or.inl ⟨t0, rfl⟩) (fun w1 hR1 f1 => fin 8 w1 _ _ hR1.2 hR1 (gTx_fT f1) (fun w' => h1 _ w' rfl))
    · rw [if_pos t0, if_neg e] at h2
      exact no _ _ (h2 rfl)
    · obtain ⟨a, ha, ea⟩ : ∃ a, a < tn T ∧ c - 48 = nI a := by
        rw [← hn] at e
        exact tR_ln hR' e
      rw [if_neg t0, if_pos e, ea, z_cl' (by omega)] at h1
      rw [ea]
      exact S_Tr_putOn (a := a) (by decide) hR' t8 ok' (Or.inr ⟨ha, rfl⟩) (fun w1 hR1 f1 => fin a w1 _ _ hR1.2 hR1 (gTx_fT f1) (fun w' => h1 _ w' rfl))
    · rw [if_neg t0, if_neg e] at h2
      exact no _ _ (h2 rfl)
  · have t0 : 0 < tn T := o44 rfl
    rw [a_st4] at h1 h2
    refine ⟨fun c => absurd c (by decide), fun _ => ⟨fun c => absurd c (by decide), fun _ => ⟨fun c => absurd c (by decide), fun _ => ⟨fun c => absurd c (by decide), fun _ => ?_⟩⟩⟩⟩
    refine G_Tx_takesUsed_0 ?_
    rw [hn, show ((8 : Int32) ≤ nI (tn T)) = (8 ≤ tn T) from propext (z_le (a := 8) (by decide) (by omega))]
    refine ⟨fun e => ⟨fun t8 => ?_, fun t8 => ?_⟩, fun e => ?_⟩
    · rw [if_pos e, if_pos t8] at h2
      exact S_mv0 (G_Tx_takesUsed_28 ⟨Or.inl rfl, G_Tx_goesOnWith_87 ⟨Or.inl rfl, h2 rfl⟩⟩)
    · rw [if_pos e, if_neg t8] at h1
      exact S_mv1 (fun w1 e1 => G_Tx_takesUsed_28 ⟨Or.inr rfl, G_Tx_goesOnWith_87 ⟨Or.inr rfl, h1 _ w1 rfl (aOk_i oW' ok' (by decide) (fun q => absurd q (by decide)) (fun _ => by show tn T < 8; omega) (fun q => absurd q (by decide))) (gTx_36 e1) (aC_mv hR' e1 (fun q => absurd q (by decide)))⟩⟩)
    · rw [if_neg e] at h1 h2
      refine S_Tr_useToo (by decide) hR' (fun v w1 ev hc hR1 f1 => ?_) (fun hno => ?_)
      · have hv : v < 8 := by
          have := tb_lt' hR'.2.1 (l := tn T - 1) (by omega) hc.2.1
          omega
        rw [if_pos ⟨v, ev, hc⟩, ev, z_cl' (by omega)] at h1
        refine G_Tx_takesUsed_40 ⟨Or.inr rfl, G_Tx_goesOnWith_87 ⟨Or.inr rfl, h1 _ w1 rfl (aOk_i hR1.2 ok' (by decide) (fun q => absurd q (by decide)) (fun q => absurd q (by decide)) (fun _ => t0)) (gTx_fT f1) ⟨?_, fun q => absurd (show (4 : Nat) = 3 from q) (by decide), hR1⟩⟩⟩
        rw [f1 36 (by decide) (by decide)]; exact b1'
      · rw [if_neg hno] at h2
        exact G_Tx_takesUsed_40 ⟨Or.inl rfl, G_Tx_goesOnWith_87 ⟨Or.inl rfl, h2 rfl⟩⟩
theorem sC_gTx {s : xS} {w w' : xWd} (h : sC s w) (hf : gTx w w') : sC s w' ∧ fC w w' := ⟨sC_fS h (fun a ha => hf a (by omega) (by omega) (by omega)), fun a ha => hf a (by omega) (by omega) (by omega)⟩
theorem G_Tx_firstFault_0 {d : Nat} {a1 : Nat} {x2 : Int32} {x3 : Int32} {w : xWd} {Q : xMV → xWd → Prop} (h : (∀ w1 : xWd, w1 = x_set w 36 1 0 → (∀ w2 : xWd, w2 = x_set w1 35 8 0 → xWp (d + 5) m_Tx_firstFault 16 [xA 4 36, xA 3 a1, xI x2, xI x3, xI 0] [] w2 Q))) : xWp (d + 5) m_Tx_firstFault 0 [xA 4 36, xA 3 a1, xI x2, xI x3, xU] [] w Q := by
  refine x_goN 2 (pc' := 2) (ls' := [xA 4 36, xA 3 a1, xI x2, xI x3, xU]) (st' := [xI 0, xA 4 36]) (w' := w) rfl ?_
  refine x_goW (pc' := 5) (ls' := [xA 4 36, xA 3 a1, xI x2, xI x3, xU]) (st' := []) (w' := x_set w 36 1 0) rfl (fun w1 ew1 => ?_)
  refine x_goN 3 (pc' := 10) (ls' := [xA 4 36, xA 3 a1, xI x2, xI x3, xU]) (st' := [xI 0, xA 5 35]) (w' := w1) rfl ?_
  refine x_goW (pc' := 13) (ls' := [xA 4 36, xA 3 a1, xI x2, xI x3, xU]) (st' := []) (w' := x_set w1 35 8 0) rfl (fun w2 ew2 => ?_)
  refine x_goN 2 (pc' := 16) (ls' := [xA 4 36, xA 3 a1, xI x2, xI x3, xI 0]) (st' := []) (w' := w2) rfl ?_
  exact ((h w1 ew1) w2 ew2)
theorem G_Tx_firstFault_16 {d : Nat} {a1 : Nat} {x2 : Int32} {x3 : Int32} {x4 : Int32} {w : xWd} {Q : xMV → xWd → Prop} (h : ((x3 ≤ x4 → ((w 36 1 = 4 → Q (xI (-9)) w) ∧ (¬ (w 36 1 = 4) → Q (xI x3) w))) ∧ (¬ (x3 ≤ x4) → xWp (d + 4) m_Sh_read 0 [xA 3 a1, xI (x2 + x4)] [] w (fun a w' => xWp (d + 5) m_Tx_firstFault 31 [xA 4 36, xA 3 a1, xI x2, xI x3, xI x4] (x_pu a [xA 4 36]) w' Q)))) : xWp (d + 5) m_Tx_firstFault 16 [xA 4 36, xA 3 a1, xI x2, xI x3, xI x4] [] w Q := by
  refine x_goN 3 (pc' := if x3 ≤ x4 then 46 else 22) (ls' := [xA 4 36, xA 3 a1, xI x2, xI x3, xI x4]) (st' := []) (w' := w) rfl ?_
  refine x_br (fun c1 => ?_) (fun c1 => ?_)
  · skip
    refine x_goN 4 (pc' := if w 36 1 = 4 then 54 else 59) (ls' := [xA 4 36, xA 3 a1, xI x2, xI x3, xI x4]) (st' := []) (w' := w) rfl ?_
    refine x_br (fun c2 => ?_) (fun c2 => ?_)
    · skip
      refine x_goN 2 (pc' := 60) (ls' := [xA 4 36, xA 3 a1, xI x2, xI x3, xI x4]) (st' := [xI (-9)]) (w' := w) rfl ?_
      exact x_ret (P := True) rfl trivial ((h.1 c1).1 c2)
    · skip
      refine x_goN 1 (pc' := 60) (ls' := [xA 4 36, xA 3 a1, xI x2, xI x3, xI x4]) (st' := [xI x3]) (w' := w) rfl ?_
      exact x_ret (P := True) rfl trivial ((h.1 c1).2 c2)
  · skip
    refine x_goN 5 (pc' := 28) (ls' := [xA 4 36, xA 3 a1, xI x2, xI x3, xI x4]) (st' := [xI (x2 + x4), xA 3 a1, xA 4 36]) (w' := w) rfl ?_
    refine x_call (y := m_Sh_read) (as := [xA 3 a1, xI (x2 + x4)]) (rst := [xA 4 36]) rfl [xA 3 a1, xI (x2 + x4)] rfl ?_
    exact (h.2 c1)
theorem G_Tx_firstFault_31 {d : Nat} {a1 : Nat} {x2 : Int32} {x3 : Int32} {x4 : Int32} {s1 : Int32} {w : xWd} {Q : xMV → xWd → Prop} (h : xWp (d + 4) m_Tx_goesOnWith 0 [xA 4 36, xI s1] [] w (fun a w' => xWp (d + 5) m_Tx_firstFault 34 [xA 4 36, xA 3 a1, xI x2, xI x3, xI x4] (x_pu a []) w' Q)) : xWp (d + 5) m_Tx_firstFault 31 [xA 4 36, xA 3 a1, xI x2, xI x3, xI x4] [xI s1, xA 4 36] w Q := by
  refine x_call (y := m_Tx_goesOnWith) (as := [xA 4 36, xI s1]) (rst := []) rfl [xA 4 36, xI s1] rfl ?_
  exact h
theorem G_Tx_firstFault_34 {d : Nat} {a1 : Nat} {x2 : Int32} {x3 : Int32} {x4 : Int32} {s0 : Int32} {w : xWd} {Q : xMV → xWd → Prop} (h : ((s0 = 0 → Q (xI x4) w) ∧ (¬ (s0 = 0) → xWp (d + 5) m_Tx_firstFault 16 [xA 4 36, xA 3 a1, xI x2, xI x3, xI (x4 + 1)] [] w Q))) : xWp (d + 5) m_Tx_firstFault 34 [xA 4 36, xA 3 a1, xI x2, xI x3, xI x4] [xI s0] w Q := by
  refine x_goN 1 (pc' := if s0 = 0 then 37 else 40) (ls' := [xA 4 36, xA 3 a1, xI x2, xI x3, xI x4]) (st' := []) (w' := w) rfl ?_
  refine x_br (fun c1 => ?_) (fun c1 => ?_)
  · skip
    refine x_goN 1 (pc' := 39) (ls' := [xA 4 36, xA 3 a1, xI x2, xI x3, xI x4]) (st' := [xI x4]) (w' := w) rfl ?_
    exact x_ret (P := True) rfl trivial (h.1 c1)
  · skip
    refine x_goN 2 (pc' := 16) (ls' := [xA 4 36, xA 3 a1, xI x2, xI x3, xI (x4 + 1)]) (st' := []) (w' := w) rfl ?_
    exact (h.2 c1)
theorem L_Tx_firstFault {d q i n : Nat} {s : xS} {w0 : xWd} {Q : xMV → xWd → Prop} (h0 : sC s w0) (hq : q < 4) (hr : 0 < s_r s q) (hi : i + n ≤ s_n s q) : ∀ (m p : Nat) (w : xWd) (P : xAu), p + m = n → aOk P → gTx w0 w → aC w P → (∀ (p' : Nat) (w' : xWd), a_go (fun j => s_c s q (i + j)) m p P = .inl p' → gTx w0 w' → Q (xI (nI p')) w') → (∀ (T : xT) (w' : xWd), a_go (fun j => s_c s q (i + j)) m p P = .inr T → gTx w0 w' → tR w' 35 T → Q (xI (-9)) w') → xWp (d + 5) m_Tx_firstFault 16 [xA 4 36, xA 3 (1057 + q), xI (nI i), xI (nI n), xI (nI p)] [] w Q := by
  have hb := h0.1.1 q hq
  intro m
  induction m with
  | zero =>
    intro p w P hp hP hg hw hl hr'
    have e : p = n := by omega
    subst e
    have o4 := hP.2.2.1
    rw [a_go_0] at hl hr'
    refine G_Tx_firstFault_16 ⟨fun _ => ?_, fun c => absurd ((z_le (by omega) (by omega)).mpr (Nat.le_refl _)) c⟩
    rw [hw.1]
    refine ⟨fun c => ?_, fun c => ?_⟩
    · have e4 := (z_eq (b := 4) (by omega) (by decide)).mp c
      rw [if_pos e4] at hr'
      exact hr' _ w rfl hg hw.2.2
    · have e4 : ¬ P.1 = 4 := fun e => c (by rw [e]; rfl)
      rw [if_neg e4] at hl
      exact hl _ w rfl hg
  | succ m ih =>
    intro p w P hp hP hg hw hl hr'
    have hs := (sC_gTx h0 hg).1.2.1 q hq
    refine G_Tx_firstFault_16 ⟨fun c => absurd ((z_le (by omega) (by omega)).mp c) (by omega), fun _ => ?_⟩
    rw [nI_add]
    refine S_Sh_read hs hr hb.2 (by omega) ?_
    refine G_Tx_firstFault_31 (S_Tx_goesOnWith hP hw (fun P' w' hst hP' g' hw' => ?_) (fun hst => ?_))
    · rw [a_go_s (F := fun j => s_c s q (i + j)) hst] at hl hr'
      refine G_Tx_firstFault_34 ⟨fun c => absurd c n_10, fun _ => ?_⟩
      rw [nI_1]
      exact ih (p + 1) w' P' (by omega) hP' (gTx_tr hg g') hw' hl hr'
    · rw [a_go_n (F := fun j => s_c s q (i + j)) hst] at hl
      exact G_Tx_firstFault_34 ⟨fun _ => hl _ w rfl hg, fun c => absurd rfl c⟩
def tE : xT := (0, fun _ => 0, fun _ => 0, fun _ => 0, fun _ => 0)
theorem tE_W : tW tE := ⟨⟨Nat.zero_le _, fun l hl => absurd hl (Nat.not_lt_zero _)⟩, fun l hl => absurd hl (Nat.not_lt_zero _)⟩
theorem S_Tx_firstFault {d q i n : Nat} {s : xS} {w0 : xWd} {Q : xMV → xWd → Prop} (h0 : sC s w0) (hq : q < 4) (hr : 0 < s_r s q) (hi : i + n ≤ s_n s q) (hl : ∀ (p' : Nat) (w' : xWd), a_go (fun j => s_c s q (i + j)) n 0 (0, 0, tE) = .inl p' → gTx w0 w' → Q (xI (nI p')) w') (hr' : ∀ (T : xT) (w' : xWd), a_go (fun j => s_c s q (i + j)) n 0 (0, 0, tE) = .inr T → gTx w0 w' → tR w' 35 T → Q (xI (-9)) w') : xWp (d + 5) m_Tx_firstFault 0 [xA 4 36, xA 3 (1057 + q), xI (nI i), xI (nI n), xU] [] w0 Q := by
  refine G_Tx_firstFault_0 (fun w1 e1 w2 e2 => ?_)
  refine L_Tx_firstFault h0 hq hr hi n 0 w2 (0, 0, tE) (Nat.zero_add _) (aOk_i tE_W (by decide) (by decide) (fun _ => rfl) (fun q => absurd q (by decide)) (fun q => absurd q (by decide))) (fun a a1 a2 a3 => by rw [e2, x_set_o a2, e1, x_set_o a1]) ⟨?_, fun q => absurd (show (0 : Nat) = 3 from q) (by decide), ⟨⟨?_, fun l hl => absurd hl (Nat.not_lt_zero _)⟩, tE_W⟩⟩ hl hr'
  · rw [e2, x_set_o (by decide), e1, x_set_s, upd_s]; rfl
  · rw [e2, x_set_s, upd_s]; rfl

