/-! HOLD: the call -/
theorem sC_gHB {s : xS} {w w' : xWd} (h : sC s w) (hf : gHB w w') : sC s w' ∧ fC w w' := ⟨sC_fS h (fun a ha => hf a (by omega) (by omega)), fun a ha => hf a (by omega) (by omega)⟩
theorem sM_fHB {s : xS} {w w' : xWd} (h : sM s w) (hf : fHB w w') : sM s w' ∧ fM w w' := by
  obtain ⟨h1, h2, h3, h4, h5, h6⟩ := h
  refine ⟨⟨h1, fun k hk => ?_, ?_, ?_, by rw [hf.2 1 (by omega)]; exact h5, by rw [hf.2 0 (by omega)]; exact h6⟩, fun a a1 a2 => hf.1 a a1 (by omega)⟩
  · unfold mSh; rw [hf.1 67 (by omega) (by omega), hf.1 68 (by omega) (by omega), hf.1 69 (by omega) (by omega)]; exact h2 k hk
  · unfold tM; rw [hf.2 5 (by omega), hf.1 71 (by omega) (by omega), hf.1 72 (by omega) (by omega), hf.1 73 (by omega) (by omega), hf.1 74 (by omega) (by omega)]; exact h3
  · unfold mRd; rw [hf.2 26 (by omega), hf.1 92 (by omega) (by omega), hf.1 93 (by omega) (by omega)]; exact h4
theorem e_l9 : (10 : Int32).toInt = 10 := rfl
/-- a question of 10 and on, about a line -/
theorem z_10 {x : Int32} {T : xT} {w : xWd} (hn : tn T ≤ 8) (h : 10 ≤ x.toInt) (h2 : x.toInt ≤ 17) : ∃ j, j < 8 ∧ x = nI (10 + j) ∧ x - 10 = nI j := by
  obtain ⟨m, e1, e2, -⟩ := z_of (v := x) (by omega)
  refine ⟨m - 10, by omega, by rw [e1]; congr 1; omega, ?_⟩
  rw [e1]
  exact pk_sub (b := 10) (by omega)
theorem G_Vp_hold_0 {d : Nat} {x1 : Int32} {x2 : Int32} {w : xWd} {Q : xMV → xWd → Prop} (h : ((x1 < 3 → Q (xI (-2)) w) ∧ (¬ (x1 < 3) → ((8 < x1 → Q (xI (-2)) w) ∧ (¬ (8 < x1) → ((p_q2 x2 → ((w 34 8 = 0 → Q (xI (-3)) w) ∧ (¬ (w 34 8 = 0) → xWp (d + 4) m_Ho_goThrough 0 [xA 0 37, xA 5 34, xI x1, xU, xU] [] w (fun a w' => xWp (d + 5) m_Vp_hold 46 [xA 6 1, xI x1, xI x2] (x_pu a []) w' Q)))) ∧ (¬ (p_q2 x2) → Q (xI (-2)) w))))))) : xWp (d + 5) m_Vp_hold 0 [xA 6 1, xI x1, xI x2] [] w Q := by
  refine x_goN 3 (pc' := if x1 < 3 then 18 else 5) (ls' := [xA 6 1, xI x1, xI x2]) (st' := []) (w' := w) rfl ?_
  refine x_br (fun c1 => ?_) (fun c1 => ?_)
  · skip
    refine x_goN 1 (pc' := 20) (ls' := [xA 6 1, xI x1, xI x2]) (st' := [xI (-2)]) (w' := w) rfl ?_
    exact x_ret (P := True) rfl trivial (h.1 c1)
  · skip
    refine x_goN 3 (pc' := if 8 < x1 then 18 else 11) (ls' := [xA 6 1, xI x1, xI x2]) (st' := []) (w' := w) rfl ?_
    refine x_br (fun c2 => ?_) (fun c2 => ?_)
    · skip
      refine x_goN 1 (pc' := 20) (ls' := [xA 6 1, xI x1, xI x2]) (st' := [xI (-2)]) (w' := w) rfl ?_
      exact x_ret (P := True) rfl trivial ((h.2 c1).1 c2)
    · skip
      refine x_goN 1 (pc' := 12) (ls' := [xA 6 1, xI x1, xI x2]) (st' := [xI x2]) (w' := w) rfl ?_
      refine x_call (y := m_Vp_isHoldQuestion) (as := [xI x2]) (rst := []) rfl [xI x2] rfl ?_
      refine S_Vp_isHoldQuestion (fun c3 => ?_) (fun c3 => ?_)
      · skip
        refine x_goN 1 (pc' := if (1 : Int32) = (0 : Int32) then 18 else 21) (ls' := [xA 6 1, xI x1, xI x2]) (st' := []) (w' := w) rfl ?_
        refine x_brF (by decide) ?_
        refine x_goN 4 (pc' := if w 34 8 = 0 then 31 else 34) (ls' := [xA 6 1, xI x1, xI x2]) (st' := []) (w' := w) rfl ?_
        refine x_br (fun c4 => ?_) (fun c4 => ?_)
        · skip
          refine x_goN 1 (pc' := 33) (ls' := [xA 6 1, xI x1, xI x2]) (st' := [xI (-3)]) (w' := w) rfl ?_
          exact x_ret (P := True) rfl trivial ((((h.2 c1).2 c2).1 c3).1 c4)
        · skip
          refine x_goN 5 (pc' := 43) (ls' := [xA 6 1, xI x1, xI x2]) (st' := [xI x1, xA 5 34, xA 0 37]) (w' := w) rfl ?_
          refine x_call (y := m_Ho_goThrough) (as := [xA 0 37, xA 5 34, xI x1]) (rst := []) rfl [xA 0 37, xA 5 34, xI x1, xU, xU] rfl ?_
          exact ((((h.2 c1).2 c2).1 c3).2 c4)
      · skip
        refine x_goN 1 (pc' := if (0 : Int32) = (0 : Int32) then 18 else 21) (ls' := [xA 6 1, xI x1, xI x2]) (st' := []) (w' := w) rfl ?_
        refine x_brT (by decide) ?_
        refine x_goN 1 (pc' := 20) (ls' := [xA 6 1, xI x1, xI x2]) (st' := [xI (-2)]) (w' := w) rfl ?_
        exact x_ret (P := True) rfl trivial (((h.2 c1).2 c2).2 c3)
theorem G_Vp_hold_46 {d : Nat} {x1 : Int32} {x2 : Int32} {w : xWd} {Q : xMV → xWd → Prop} (h : ((x2 = 0 → Q (xI (w 37 1)) w) ∧ (¬ (x2 = 0) → ((x2 = 1 → Q (xI (w 37 2)) w) ∧ (¬ (x2 = 1) → ((x2 = 2 → Q (xI (w 37 3)) w) ∧ (¬ (x2 = 2) → ((p_lt (x2 - 10) (w 34 8) → (vp_in (x2 - 10) 8 ∧ Q (xI (w 1185 (x2 - 10).toNatClampNeg)) w)) ∧ (¬ (p_lt (x2 - 10) (w 34 8)) → Q (xI (-9)) w))))))))) : xWp (d + 5) m_Vp_hold 46 [xA 6 1, xI x1, xI x2] [] w Q := by
  refine x_goN 2 (pc' := if x2 = 0 then 72 else if x2 = 1 then 80 else if x2 = 2 then 88 else 96) (ls' := [xA 6 1, xI x1, xI x2]) (st' := []) (w' := w) rfl ?_
  refine x_br (fun c1 => ?_) (fun c1 => ?_)
  · skip
    refine x_goN 3 (pc' := 79) (ls' := [xA 6 1, xI x1, xI x2]) (st' := [xI (w 37 1)]) (w' := w) rfl ?_
    exact x_ret (P := True) rfl trivial (h.1 c1)
  · skip
    refine x_br (fun c2 => ?_) (fun c2 => ?_)
    · skip
      refine x_goN 3 (pc' := 87) (ls' := [xA 6 1, xI x1, xI x2]) (st' := [xI (w 37 2)]) (w' := w) rfl ?_
      exact x_ret (P := True) rfl trivial ((h.2 c1).1 c2)
    · skip
      refine x_br (fun c3 => ?_) (fun c3 => ?_)
      · skip
        refine x_goN 3 (pc' := 95) (ls' := [xA 6 1, xI x1, xI x2]) (st' := [xI (w 37 3)]) (w' := w) rfl ?_
        exact x_ret (P := True) rfl trivial (((h.2 c1).2 c2).1 c3)
      · skip
        refine x_goN 5 (pc' := 104) (ls' := [xA 6 1, xI x1, xI x2]) (st' := [xI (x2 - 10), xA 5 34]) (w' := w) rfl ?_
        refine x_call (y := m_Tr_isLine) (as := [xA 5 34, xI (x2 - 10)]) (rst := []) rfl [xA 5 34, xI (x2 - 10)] rfl ?_
        refine S_Tr_isLine (fun c4 => ?_) (fun c4 => ?_)
        · skip
          refine x_goN 1 (pc' := if (1 : Int32) = (0 : Int32) then 125 else 110) (ls' := [xA 6 1, xI x1, xI x2]) (st' := []) (w' := w) rfl ?_
          refine x_brF (by decide) ?_
          refine x_goN 6 (pc' := 121) (ls' := [xA 6 1, xI x1, xI x2]) (st' := [xI (x2 - 10), xA 108 1185]) (w' := w) rfl ?_
          refine x_ob (P := vp_in (x2 - 10) 8) (pc' := 122) (ls' := [xA 6 1, xI x1, xI x2]) (st' := [xI (w 1185 (x2 - 10).toNatClampNeg)]) (w' := w) rfl ((((h.2 c1).2 c2).2 c3).1 c4).1 ?_
          refine x_goN 1 (pc' := 127) (ls' := [xA 6 1, xI x1, xI x2]) (st' := [xI (w 1185 (x2 - 10).toNatClampNeg)]) (w' := w) rfl ?_
          exact x_ret (P := True) rfl trivial ((((h.2 c1).2 c2).2 c3).1 c4).2
        · skip
          refine x_goN 1 (pc' := if (0 : Int32) = (0 : Int32) then 125 else 110) (ls' := [xA 6 1, xI x1, xI x2]) (st' := []) (w' := w) rfl ?_
          refine x_brT (by decide) ?_
          refine x_goN 1 (pc' := 127) (ls' := [xA 6 1, xI x1, xI x2]) (st' := [xI (-9)]) (w' := w) rfl ?_
          exact x_ret (P := True) rfl trivial ((((h.2 c1).2 c2).2 c3).2 c4)
theorem G_Md_hold_0 {d : Nat} {x1 : Int32} {x2 : Int32} {w : xWd} {Q : xMV → xWd → Prop} (h : ((p_wi x1 3 8 → ((p_wi x2 0 2 → ((w 2 5 = 0 → Q (xI (-3)) w) ∧ (¬ (w 2 5 = 0) → xWp (d + 4) m_Md_findHeld 0 [xA 7 2, xI x1, xU] [] w (fun a w' => xWp (d + 5) m_Md_hold 48 [xA 7 2, xI x1, xI x2] (x_pu a []) w' Q)))) ∧ (¬ (p_wi x2 0 2) → ((p_wi x2 10 17 → ((w 2 5 = 0 → Q (xI (-3)) w) ∧ (¬ (w 2 5 = 0) → xWp (d + 4) m_Md_findHeld 0 [xA 7 2, xI x1, xU] [] w (fun a w' => xWp (d + 5) m_Md_hold 48 [xA 7 2, xI x1, xI x2] (x_pu a []) w' Q)))) ∧ (¬ (p_wi x2 10 17) → Q (xI (-2)) w))))) ∧ (¬ (p_wi x1 3 8) → Q (xI (-2)) w))) : xWp (d + 5) m_Md_hold 0 [xA 7 2, xI x1, xI x2] [] w Q := by
  refine x_goN 3 (pc' := 4) (ls' := [xA 7 2, xI x1, xI x2]) (st' := [xI 8, xI 3, xI x1]) (w' := w) rfl ?_
  refine x_call (y := m_Md_within) (as := [xI x1, xI 3, xI 8]) (rst := []) rfl [xI x1, xI 3, xI 8] rfl ?_
  refine S_Md_within (fun c1 => ?_) (fun c1 => ?_)
  · skip
    refine x_goN 1 (pc' := if (1 : Int32) = (0 : Int32) then 30 else 10) (ls' := [xA 7 2, xI x1, xI x2]) (st' := []) (w' := w) rfl ?_
    refine x_brF (by decide) ?_
    refine x_goN 3 (pc' := 13) (ls' := [xA 7 2, xI x1, xI x2]) (st' := [xI 2, xI 0, xI x2]) (w' := w) rfl ?_
    refine x_call (y := m_Md_within) (as := [xI x2, xI 0, xI 2]) (rst := []) rfl [xI x2, xI 0, xI 2] rfl ?_
    refine S_Md_within (fun c2 => ?_) (fun c2 => ?_)
    · skip
      refine x_goN 1 (pc' := if (1 : Int32) = (0 : Int32) then 19 else 33) (ls' := [xA 7 2, xI x1, xI x2]) (st' := []) (w' := w) rfl ?_
      refine x_brF (by decide) ?_
      refine x_goN 3 (pc' := if w 2 5 = 0 then 40 else 43) (ls' := [xA 7 2, xI x1, xI x2]) (st' := []) (w' := w) rfl ?_
      refine x_br (fun c3 => ?_) (fun c3 => ?_)
      · skip
        refine x_goN 1 (pc' := 42) (ls' := [xA 7 2, xI x1, xI x2]) (st' := [xI (-3)]) (w' := w) rfl ?_
        exact x_ret (P := True) rfl trivial (((h.1 c1).1 c2).1 c3)
      · skip
        refine x_goN 2 (pc' := 45) (ls' := [xA 7 2, xI x1, xI x2]) (st' := [xI x1, xA 7 2]) (w' := w) rfl ?_
        refine x_call (y := m_Md_findHeld) (as := [xA 7 2, xI x1]) (rst := []) rfl [xA 7 2, xI x1, xU] rfl ?_
        exact (((h.1 c1).1 c2).2 c3)
    · skip
      refine x_goN 1 (pc' := if (0 : Int32) = (0 : Int32) then 19 else 33) (ls' := [xA 7 2, xI x1, xI x2]) (st' := []) (w' := w) rfl ?_
      refine x_brT (by decide) ?_
      refine x_goN 3 (pc' := 24) (ls' := [xA 7 2, xI x1, xI x2]) (st' := [xI 17, xI 10, xI x2]) (w' := w) rfl ?_
      refine x_call (y := m_Md_within) (as := [xI x2, xI 10, xI 17]) (rst := []) rfl [xI x2, xI 10, xI 17] rfl ?_
      refine S_Md_within (fun c4 => ?_) (fun c4 => ?_)
      · skip
        refine x_goN 1 (pc' := if (1 : Int32) = (0 : Int32) then 30 else 33) (ls' := [xA 7 2, xI x1, xI x2]) (st' := []) (w' := w) rfl ?_
        refine x_brF (by decide) ?_
        refine x_goN 3 (pc' := if w 2 5 = 0 then 40 else 43) (ls' := [xA 7 2, xI x1, xI x2]) (st' := []) (w' := w) rfl ?_
        refine x_br (fun c5 => ?_) (fun c5 => ?_)
        · skip
          refine x_goN 1 (pc' := 42) (ls' := [xA 7 2, xI x1, xI x2]) (st' := [xI (-3)]) (w' := w) rfl ?_
          exact x_ret (P := True) rfl trivial ((((h.1 c1).2 c2).1 c4).1 c5)
        · skip
          refine x_goN 2 (pc' := 45) (ls' := [xA 7 2, xI x1, xI x2]) (st' := [xI x1, xA 7 2]) (w' := w) rfl ?_
          refine x_call (y := m_Md_findHeld) (as := [xA 7 2, xI x1]) (rst := []) rfl [xA 7 2, xI x1, xU] rfl ?_
          exact ((((h.1 c1).2 c2).1 c4).2 c5)
      · skip
        refine x_goN 1 (pc' := if (0 : Int32) = (0 : Int32) then 30 else 33) (ls' := [xA 7 2, xI x1, xI x2]) (st' := []) (w' := w) rfl ?_
        refine x_brT (by decide) ?_
        refine x_goN 1 (pc' := 32) (ls' := [xA 7 2, xI x1, xI x2]) (st' := [xI (-2)]) (w' := w) rfl ?_
        exact x_ret (P := True) rfl trivial (((h.1 c1).2 c2).2 c4)
  · skip
    refine x_goN 1 (pc' := if (0 : Int32) = (0 : Int32) then 30 else 10) (ls' := [xA 7 2, xI x1, xI x2]) (st' := []) (w' := w) rfl ?_
    refine x_brT (by decide) ?_
    refine x_goN 1 (pc' := 32) (ls' := [xA 7 2, xI x1, xI x2]) (st' := [xI (-2)]) (w' := w) rfl ?_
    exact x_ret (P := True) rfl trivial (h.2 c1)
theorem G_Md_hold_48 {d : Nat} {x1 : Int32} {x2 : Int32} {w : xWd} {Q : xMV → xWd → Prop} (h : ((x2 < 10 → ((x2 = 0 → Q (xI (w 2 19)) w) ∧ (¬ (x2 = 0) → ((x2 = 1 → Q (xI (w 2 20)) w) ∧ (¬ (x2 = 1) → Q (xI (w 2 21)) w))))) ∧ (¬ (x2 < 10) → ((p_lt (x2 - 10) (w 2 5) → (vp_in (x2 - 10) 8 ∧ Q (xI (w 83 (x2 - 10).toNatClampNeg)) w)) ∧ (¬ (p_lt (x2 - 10) (w 2 5)) → Q (xI (-9)) w))))) : xWp (d + 5) m_Md_hold 48 [xA 7 2, xI x1, xI x2] [] w Q := by
  refine x_goN 3 (pc' := if x2 < 10 then 80 else 54) (ls' := [xA 7 2, xI x1, xI x2]) (st' := []) (w' := w) rfl ?_
  refine x_br (fun c1 => ?_) (fun c1 => ?_)
  · skip
    refine x_goN 2 (pc' := if x2 = 0 then 84 else 91) (ls' := [xA 7 2, xI x1, xI x2]) (st' := []) (w' := w) rfl ?_
    refine x_br (fun c2 => ?_) (fun c2 => ?_)
    · skip
      refine x_goN 3 (pc' := 107) (ls' := [xA 7 2, xI x1, xI x2]) (st' := [xI (w 2 19)]) (w' := w) rfl ?_
      exact x_ret (P := True) rfl trivial ((h.1 c1).1 c2)
    · skip
      refine x_goN 3 (pc' := if x2 = 1 then 96 else 103) (ls' := [xA 7 2, xI x1, xI x2]) (st' := []) (w' := w) rfl ?_
      refine x_br (fun c3 => ?_) (fun c3 => ?_)
      · skip
        refine x_goN 3 (pc' := 107) (ls' := [xA 7 2, xI x1, xI x2]) (st' := [xI (w 2 20)]) (w' := w) rfl ?_
        exact x_ret (P := True) rfl trivial (((h.1 c1).2 c2).1 c3)
      · skip
        refine x_goN 2 (pc' := 107) (ls' := [xA 7 2, xI x1, xI x2]) (st' := [xI (w 2 21)]) (w' := w) rfl ?_
        exact x_ret (P := True) rfl trivial (((h.1 c1).2 c2).2 c3)
  · skip
    refine x_goN 4 (pc' := 59) (ls' := [xA 7 2, xI x1, xI x2]) (st' := [xI (x2 - 10), xA 7 2]) (w' := w) rfl ?_
    refine x_call (y := m_Md_isLine) (as := [xA 7 2, xI (x2 - 10)]) (rst := []) rfl [xA 7 2, xI (x2 - 10)] rfl ?_
    refine S_Md_isLine (fun c4 => ?_) (fun c4 => ?_)
    · skip
      refine x_goN 1 (pc' := if (1 : Int32) = (0 : Int32) then 77 else 65) (ls' := [xA 7 2, xI x1, xI x2]) (st' := []) (w' := w) rfl ?_
      refine x_brF (by decide) ?_
      refine x_goN 5 (pc' := 73) (ls' := [xA 7 2, xI x1, xI x2]) (st' := [xI (x2 - 10), xA 108 83]) (w' := w) rfl ?_
      refine x_ob (P := vp_in (x2 - 10) 8) (pc' := 74) (ls' := [xA 7 2, xI x1, xI x2]) (st' := [xI (w 83 (x2 - 10).toNatClampNeg)]) (w' := w) rfl ((h.2 c1).1 c4).1 ?_
      refine x_goN 1 (pc' := 79) (ls' := [xA 7 2, xI x1, xI x2]) (st' := [xI (w 83 (x2 - 10).toNatClampNeg)]) (w' := w) rfl ?_
      exact x_ret (P := True) rfl trivial ((h.2 c1).1 c4).2
    · skip
      refine x_goN 1 (pc' := if (0 : Int32) = (0 : Int32) then 77 else 65) (ls' := [xA 7 2, xI x1, xI x2]) (st' := []) (w' := w) rfl ?_
      refine x_brT (by decide) ?_
      refine x_goN 1 (pc' := 79) (ls' := [xA 7 2, xI x1, xI x2]) (st' := [xI (-9)]) (w' := w) rfl ?_
      exact x_ret (P := True) rfl trivial ((h.2 c1).2 c4)
theorem p_lt_n {j n : Nat} (hj : j < 2 ^ 31) (hn : n < 2 ^ 31) : p_lt (nI j) (nI n) ↔ j < n := by
  unfold p_lt
  rw [nI_toInt hj, nI_toInt hn]
  omega
theorem O_hold (s : xS) (x1 x2 : Int32) : oB m_Vp_hold [xA 6 1, xI x1, xI x2] m_Md_hold [xA 7 2, xI x1, xI x2] s := by
  have e38 : p_wi x1 3 8 ↔ 3 ≤ x1.toInt ∧ x1.toInt ≤ 8 := by unfold p_wi; rw [e_l3, e_l8]
  have e02 : p_wi x2 0 2 ↔ 0 ≤ x2.toInt ∧ x2.toInt ≤ 2 := by unfold p_wi; rw [e_l0, e_l2]
  have e1017 : p_wi x2 10 17 ↔ 10 ≤ x2.toInt ∧ x2.toInt ≤ 17 := by unfold p_wi; rw [e_l10, e_l17]
  have eq2 : p_q2 x2 ↔ (0 ≤ x2.toInt ∧ x2.toInt ≤ 2) ∨ (10 ≤ x2.toInt ∧ x2.toInt ≤ 17) := Iff.rfl
  have lt3 : x1 < 3 ↔ x1.toInt < 3 := by rw [fa_lt, e_l3]
  have lt8 : 8 < x1 ↔ 8 < x1.toInt := by rw [fa_lt, e_l8]
  have lt10 : x2 < 10 ↔ x2.toInt < 10 := by rw [fa_lt, e_l10]
  have q0 : x2 = 0 ↔ x2.toInt = 0 := by rw [fa_eq, e_l0]
  have q1 : x2 = 1 ↔ x2.toInt = 1 := by rw [fa_eq, e_l1]
  have q2 : x2 = 2 ↔ x2.toInt = 2 := by rw [fa_eq, e_l2]
  by_cases hk : 3 ≤ x1.toInt ∧ x1.toInt ≤ 8
  · by_cases hq : (0 ≤ x2.toInt ∧ x2.toInt ≤ 2) ∨ (10 ≤ x2.toInt ∧ x2.toInt ≤ 17)
    · by_cases hn : tn (s_T s) = 0
      · refine ⟨(-3), s, fun w h => ?_, fun w h => ?_⟩
        · refine G_Vp_hold_0 ?_
          rw [sC_n h, hn, lt3, lt8, eq2]
          exact ⟨fun _ => by omega, fun _ => ⟨fun _ => by omega, fun _ => ⟨fun _ => ⟨fun _ => cE h, fun c => absurd rfl c⟩, fun c => absurd hq c⟩⟩⟩
        · refine G_Md_hold_0 ?_
          rw [sM_n h, hn, e38, e02, e1017]
          exact ⟨fun _ => ⟨fun _ => ⟨fun _ => mE h, fun c => absurd rfl c⟩, fun _ => ⟨fun _ => ⟨fun _ => mE h, fun c => absurd rfl c⟩, fun c => by omega⟩⟩, fun c => absurd hk c⟩
      · obtain ⟨k, rfl, ek, -⟩ := z_of (v := x1) (by omega)
        have k3 : 3 ≤ k := by omega
        have k8 : k ≤ 8 := by omega
        have hC : ∀ (r : xMV) (w : xWd), sC s w → (∀ w', gHB w w' → sC s w' → fC w w' → hCg w' (h_go (s_T s) k (tn (s_T s))) (tn (s_T s)) → xWp 6 m_Vp_hold 46 [xA 6 1, xI (nI k), xI x2] [] w' (fun a w' => a = r ∧ sC s w' ∧ fC w w')) → xWp 6 m_Vp_hold 0 [xA 6 1, xI (nI k), xI x2] [] w (fun a w' => a = r ∧ sC s w' ∧ fC w w') := by
          intro r w h K
          have h8 := s_n8 h.1
          refine G_Vp_hold_0 ?_
          rw [sC_n h, lt3, lt8, eq2]
          refine ⟨fun _ => by omega, fun _ => ⟨fun _ => by omega, fun _ => ⟨fun _ => ⟨fun c => absurd ((z_eq (b := 0) (by omega) (by decide)).mp c) hn, fun _ => ?_⟩, fun c => absurd hq c⟩⟩⟩
          exact S_Ho_goThrough (Or.inl rfl) (sC_R h) k3 k8 (fun w' hg hG => K w' hg (sC_gHB h hg).1 (sC_gHB h hg).2 hG)
        have hM : ∀ (r : xMV) (w : xWd), sM s w → (∀ w', sM s w' → fM w w' → hMg w' (h_go (s_T s) k (tn (s_T s))) (tn (s_T s)) → xWp 6 m_Md_hold 48 [xA 7 2, xI (nI k), xI x2] [] w' (fun a w' => a = r ∧ sM s w' ∧ fM w w')) → xWp 6 m_Md_hold 0 [xA 7 2, xI (nI k), xI x2] [] w (fun a w' => a = r ∧ sM s w' ∧ fM w w') := by
          intro r w h K
          have h8 := s_n8 h.1
          have K' : xWp 5 m_Md_findHeld 0 [xA 7 2, xI (nI k), xU] [] w (fun a w' => xWp 6 m_Md_hold 48 [xA 7 2, xI (nI k), xI x2] (x_pu a []) w' (fun a w' => a = r ∧ sM s w' ∧ fM w w')) :=
            S_Md_findHeld (sM_S h) k3 k8 (fun w' hg hG => K w' (sM_fHB h hg).1 (sM_fHB h hg).2 hG)
          refine G_Md_hold_0 ?_
          rw [sM_n h, e38, e02, e1017]
          exact ⟨fun _ => ⟨fun _ => ⟨fun c => absurd ((z_eq (b := 0) (by omega) (by decide)).mp c) hn, fun _ => K'⟩, fun _ => ⟨fun _ => ⟨fun c => absurd ((z_eq (b := 0) (by omega) (by decide)).mp c) hn, fun _ => K'⟩, fun c => by omega⟩⟩, fun c => absurd hk c⟩
        by_cases c0 : x2.toInt = 0
        · refine ⟨(nI (h_go (s_T s) k (tn (s_T s))).2.2.1), s, fun w h => hC _ w h (fun w' hg h' f' hG => ?_), fun w h => hM _ w h (fun w' h' f' hG => ?_)⟩
          · exact G_Vp_hold_46 ⟨fun _ => ⟨by rw [hG.1.1], h', f'⟩, fun c => absurd (q0.mpr c0) c⟩
          · exact G_Md_hold_48 ⟨fun _ => ⟨fun _ => ⟨by rw [hG.1.1], h', f'⟩, fun c => absurd (q0.mpr c0) c⟩, fun c => absurd (lt10.mpr (by omega)) c⟩
        by_cases c1 : x2.toInt = 1
        · refine ⟨(nI (h_go (s_T s) k (tn (s_T s))).2.2.2.1), s, fun w h => hC _ w h (fun w' hg h' f' hG => ?_), fun w h => hM _ w h (fun w' h' f' hG => ?_)⟩
          · exact G_Vp_hold_46 ⟨fun c => absurd (q0.mp c) c0, fun _ => ⟨fun _ => ⟨by rw [hG.1.2.1], h', f'⟩, fun c => absurd (q1.mpr c1) c⟩⟩
          · exact G_Md_hold_48 ⟨fun _ => ⟨fun c => absurd (q0.mp c) c0, fun _ => ⟨fun _ => ⟨by rw [hG.1.2.1], h', f'⟩, fun c => absurd (q1.mpr c1) c⟩⟩, fun c => absurd (lt10.mpr (by omega)) c⟩
        by_cases c2 : x2.toInt = 2
        · refine ⟨(nI (h_go (s_T s) k (tn (s_T s))).2.2.2.2), s, fun w h => hC _ w h (fun w' hg h' f' hG => ?_), fun w h => hM _ w h (fun w' h' f' hG => ?_)⟩
          · exact G_Vp_hold_46 ⟨fun c => absurd (q0.mp c) c0, fun _ => ⟨fun c => absurd (q1.mp c) c1, fun _ => ⟨fun _ => ⟨by rw [hG.1.2.2], h', f'⟩, fun c => absurd (q2.mpr c2) c⟩⟩⟩
          · exact G_Md_hold_48 ⟨fun _ => ⟨fun c => absurd (q0.mp c) c0, fun _ => ⟨fun c => absurd (q1.mp c) c1, fun _ => ⟨by rw [hG.1.2.2], h', f'⟩⟩⟩, fun c => absurd (lt10.mpr (by omega)) c⟩
        by_cases hOk' : sOk s
        · have h8 := s_n8 hOk'
          obtain ⟨j, hj, ex, ex10⟩ := z_10 (x := x2) (T := s_T s) (w := fun _ _ => 0) h8 (by omega) (by omega)
          by_cases hjn : j < tn (s_T s)
          · refine ⟨(nI ((h_go (s_T s) k (tn (s_T s))).1 j)), s, fun w h => hC _ w h (fun w' hg h' f' hG => ?_), fun w h => hM _ w h (fun w' h' f' hG => ?_)⟩
            · refine G_Vp_hold_46 ?_
              rw [ex10, sC_n h', z_cl' (by omega), hG.2 j hjn]
              exact ⟨fun c => absurd (q0.mp c) c0, fun _ => ⟨fun c => absurd (q1.mp c) c1, fun _ => ⟨fun c => absurd (q2.mp c) c2, fun _ => ⟨fun _ => ⟨z_in (by omega) (by decide), rfl, h', f'⟩, fun c => absurd ((p_lt_n (by omega) (by omega)).mpr hjn) c⟩⟩⟩⟩
            · refine G_Md_hold_48 ?_
              rw [ex10, sM_n h', z_cl' (by omega), hG.2 j hjn]
              exact ⟨fun c => absurd (lt10.mp c) (by omega), fun _ => ⟨fun _ => ⟨z_in (by omega) (by decide), rfl, h', f'⟩, fun c => absurd ((p_lt_n (by omega) (by omega)).mpr hjn) c⟩⟩
          · refine ⟨(-9), s, fun w h => hC _ w h (fun w' hg h' f' hG => ?_), fun w h => hM _ w h (fun w' h' f' hG => ?_)⟩
            · refine G_Vp_hold_46 ?_
              rw [ex10, sC_n h']
              exact ⟨fun c => absurd (q0.mp c) c0, fun _ => ⟨fun c => absurd (q1.mp c) c1, fun _ => ⟨fun c => absurd (q2.mp c) c2, fun _ => ⟨fun c => absurd ((p_lt_n (by omega) (by omega)).mp c) hjn, fun _ => ⟨rfl, h', f'⟩⟩⟩⟩⟩
            · refine G_Md_hold_48 ?_
              rw [ex10, sM_n h']
              exact ⟨fun c => absurd (lt10.mp c) (by omega), fun _ => ⟨fun c => absurd ((p_lt_n (by omega) (by omega)).mp c) hjn, fun _ => ⟨rfl, h', f'⟩⟩⟩
        · exact ⟨0, s, fun w h => absurd h.1 hOk', fun w h => absurd h.1 hOk'⟩
    · refine ⟨(-2), s, fun w h => ?_, fun w h => ?_⟩
      · refine G_Vp_hold_0 ?_
        rw [eq2]
        exact ⟨fun _ => cE h, fun _ => ⟨fun _ => cE h, fun _ => ⟨fun c => absurd c hq, fun _ => cE h⟩⟩⟩
      · refine G_Md_hold_0 ?_
        rw [e02, e1017]
        exact ⟨fun _ => ⟨fun c => absurd (Or.inl c) hq, fun _ => ⟨fun c => absurd (Or.inr c) hq, fun _ => mE h⟩⟩, fun _ => mE h⟩
  · refine ⟨(-2), s, fun w h => ?_, fun w h => ?_⟩
    · refine G_Vp_hold_0 ?_
      rw [lt3, lt8]
      exact ⟨fun _ => cE h, fun _ => ⟨fun _ => cE h, fun _ => by omega⟩⟩
    · refine G_Md_hold_0 ?_
      rw [e38]
      exact ⟨fun c => absurd c hk, fun _ => mE h⟩

