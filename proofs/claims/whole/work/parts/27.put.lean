/-! SHEETS: put, sheet -/
def vCut (r : Nat) (v : Int32) : Int32 := if r = 1 then v.toInt8.toInt32 else if r = 2 then v.toInt16.toInt32 else v
def uPu (s : xS) (k i : Nat) (v : Int32) : xS := uSh s k (s_r s k) (s_n s k) (upd (s_c s k) i (vCut (s_r s k) v))
theorem G_Sh_cutToLane_0 {d : Nat} {a0 : Nat} {x1 : Int32} {w : xWd} {Q : xMV → xWd → Prop} (h : ((w a0 2 = 0 → Q (xI x1.toInt8.toInt32) w) ∧ (¬ (w a0 2 = 0) → ((w a0 2 = 1 → Q (xI x1.toInt16.toInt32) w) ∧ (¬ (w a0 2 = 1) → Q (xI x1) w))))) : xWp d m_Sh_cutToLane 0 [xA 3 a0, xI x1] [] w Q := by
  refine x_goN 3 (pc' := if w a0 2 = 0 then 32 else if w a0 2 = 1 then 35 else 38) (ls' := [xA 3 a0, xI x1]) (st' := []) (w' := w) rfl ?_
  refine x_br (fun c1 => ?_) (fun c1 => ?_)
  · skip
    refine x_goN 2 (pc' := 34) (ls' := [xA 3 a0, xI x1]) (st' := [xI x1.toInt8.toInt32]) (w' := w) rfl ?_
    exact x_ret (P := True) rfl trivial (h.1 c1)
  · skip
    refine x_br (fun c2 => ?_) (fun c2 => ?_)
    · skip
      refine x_goN 2 (pc' := 37) (ls' := [xA 3 a0, xI x1]) (st' := [xI x1.toInt16.toInt32]) (w' := w) rfl ?_
      exact x_ret (P := True) rfl trivial ((h.2 c1).1 c2)
    · skip
      refine x_goN 1 (pc' := 39) (ls' := [xA 3 a0, xI x1]) (st' := [xI x1]) (w' := w) rfl ?_
      exact x_ret (P := True) rfl trivial ((h.2 c1).2 c2)
theorem G_Sh_write_0 {d : Nat} {a0 : Nat} {x1 : Int32} {x2 : Int32} {w : xWd} {Q : xMV → xWd → Prop} (h : ((p_hc (w a0 3) x1 1 → xWp d m_Sh_cutToLane 0 [xA 3 a0, xI x2] [] w (fun a w' => xWp (d + 1) m_Sh_write 19 [xA 3 a0, xI x1, xI x2] (x_pu a [xI x1, xA 160 (32 * a0 + 1)]) w' Q)) ∧ (¬ (p_hc (w a0 3) x1 1) → Q xU w))) : xWp (d + 1) m_Sh_write 0 [xA 3 a0, xI x1, xI x2] [] w Q := by
  refine x_goN 3 (pc' := 3) (ls' := [xA 3 a0, xI x1, xI x2]) (st' := [xI 1, xI x1, xA 3 a0]) (w' := w) rfl ?_
  refine x_call (y := m_Sh_hasCells) (as := [xA 3 a0, xI x1, xI 1]) (rst := []) rfl [xA 3 a0, xI x1, xI 1] rfl ?_
  refine S_Sh_hasCells (fun c1 => ?_) (fun c1 => ?_)
  · skip
    refine x_goN 1 (pc' := if (1 : Int32) = (0 : Int32) then 20 else 9) (ls' := [xA 3 a0, xI x1, xI x2]) (st' := []) (w' := w) rfl ?_
    refine x_brF (by decide) ?_
    refine x_goN 5 (pc' := 16) (ls' := [xA 3 a0, xI x1, xI x2]) (st' := [xI x2, xA 3 a0, xI x1, xA 160 (32 * a0 + 1)]) (w' := w) rfl ?_
    refine x_call (y := m_Sh_cutToLane) (as := [xA 3 a0, xI x2]) (rst := [xI x1, xA 160 (32 * a0 + 1)]) rfl [xA 3 a0, xI x2] rfl ?_
    exact (h.1 c1)
  · skip
    refine x_goN 1 (pc' := if (0 : Int32) = (0 : Int32) then 20 else 9) (ls' := [xA 3 a0, xI x1, xI x2]) (st' := []) (w' := w) rfl ?_
    refine x_brT (by decide) ?_
    exact x_ret (P := True) rfl trivial (h.2 c1)
theorem G_Sh_write_19 {d : Nat} {a0 : Nat} {x1 : Int32} {x2 : Int32} {s2 : Int32} {s1 : Int32} {b0 : Nat} {w : xWd} {Q : xMV → xWd → Prop} (h : (vp_in s1 60 ∧ ∀ w1 : xWd, w1 = x_set w b0 s1.toNatClampNeg s2 → Q xU w1)) : xWp (d + 1) m_Sh_write 19 [xA 3 a0, xI x1, xI x2] [xI s2, xI s1, xA 160 b0] w Q := by
  refine x_obW (P := vp_in s1 60) (pc' := 20) (ls' := [xA 3 a0, xI x1, xI x2]) (st' := []) (w' := x_set w b0 s1.toNatClampNeg s2) rfl h.1 (fun w1 ew1 => ?_)
  exact x_ret (P := True) rfl trivial (h.2 w1 ew1)
theorem S_Sh_write {d k i : Nat} {s : xS} {w : xWd} {Q : xMV → xWd → Prop} {v : Int32} (h : sC s w) (hk : k < 4) (hr : 0 < s_r s k) (hi : i < s_n s k) (hq : ∀ w', sC (uPu s k i v) w' → fC w w' → Q xU w') : xWp (d + 1) m_Sh_write 0 [xA 3 (1057 + k), xI (nI i), xI v] [] w Q := by
  have hb := h.1.1 k hk
  obtain ⟨c1, c2, c3⟩ := h.2.1 k hk
  obtain ⟨g1, g2, g3⟩ := c2 hr
  have key : xWp (d + 1) m_Sh_write 19 [xA 3 (1057 + k), xI (nI i), xI v] [xI (vCut (s_r s k) v), xI (nI i), xA 160 (32 * (1057 + k) + 1)] w Q := by
    refine G_Sh_write_19 ⟨z_in (by omega) (by decide), fun w1 e1 => ?_⟩
    rw [z_cl' (by omega)] at e1
    refine hq w1 (sC_uSh h hk hb.1 hb.2 (fun a b1 b2 => by rw [e1, x_set_o b2]) ⟨fun q => absurd q (by omega), fun _ => ?_, fun j hj => ?_⟩) (e1 ▸ fC_set (by omega))
    · rw [e1, x_set_o (by omega)]; exact c2 hr
    · rw [e1, x_set_s]
      by_cases e : j = i
      · rw [e, upd_s, upd_s]
      · rw [upd_o e, upd_o e]; exact c3 j hj
  refine G_Sh_write_0 ?_
  rw [g3]
  refine ⟨fun _ => G_Sh_cutToLane_0 ?_, fun c => absurd ((p_hc_iff hb.2 (by decide)).mpr (by rw [nI_toInt (by omega), e_l1]; omega)) c⟩
  rw [g2]
  unfold vCut at key
  refine ⟨fun q => ?_, fun q => ⟨fun q2 => ?_, fun q2 => ?_⟩⟩
  · have := (z_eq0 (by omega)).mp q
    rw [if_pos (by omega)] at key; exact key
  · have := (z_eq (b := 1) (by omega) (by decide)).mp q2
    rw [if_neg (by omega), if_pos (by omega)] at key; exact key
  · have n1 : ¬ s_r s k = 1 := fun e => q ((z_eq0 (by omega)).mpr (by omega))
    have n2 : ¬ s_r s k = 2 := fun e => q2 ((z_eq (b := 1) (by omega) (by decide)).mpr (by omega))
    rw [if_neg n1, if_neg n2] at key; exact key
theorem M_put {k i : Nat} {s : xS} {w w1 : xWd} {v x : Int32} (h : sM s w) (hk : k < 4) (hr : 0 < s_r s k) (hi : i < s_n s k) (hv : x = vCut (s_r s k) v) (e1 : w1 = x_set w 69 (nI (60 * k + i)).toNatClampNeg x) : sM (uPu s k i v) w1 ∧ fM w w1 := by
  have hb := h.1.1 k hk
  obtain ⟨c1, c2, c3⟩ := h.2.1 k hk
  rw [z_cl' (by omega), hv] at e1
  refine ⟨sM_uSh h hk hb.1 hb.2 (fun a b1 b2 b3 => by rw [e1, x_set_o b3]) (fun j hj hne => ⟨by rw [e1, x_set_o (by decide)], by rw [e1, x_set_o (by decide)], fun m hm => by rw [e1, x_set_s, upd_o (by omega)]⟩) ⟨fun q => absurd q (by omega), fun _ => ?_, fun j hj => ?_⟩, e1 ▸ fM_set (by omega)⟩
  · rw [e1, x_set_o (by decide), x_set_o (by decide)]; exact c2 hr
  · rw [e1, x_set_s]
    by_cases e : j = i
    · rw [e, upd_s, upd_s]
    · rw [upd_o (by omega), upd_o e]; exact c3 j hj
theorem vFa_own {r n : Nat} {x : Int32} (hr : 0 < r) : vFa r n (nI (r - 1)) x 1 = if 0 ≤ x.toInt ∧ 1 + x.toInt ≤ n then 0 else 3 := by
  unfold vFa
  rw [if_neg (by omega), if_pos rfl, e_l1, if_neg (by decide)]
theorem G_Vp_put_0 {d : Nat} {x1 : Int32} {x2 : Int32} {x3 : Int32} {w : xWd} {Q : xMV → xWd → Prop} (h : (∀ w1 : xWd, w1 = x_set w 1 8 0 → ((p_rg x1 0 3 → (vp_in x1 4 ∧ (vp_in x1 4 ∧ xWp (d + 1) m_Sh_faultOfCells 0 [xA 3 (32 * 33 + x1.toNatClampNeg + 1), xI (w1 (32 * 33 + x1.toNatClampNeg + 1) 2), xI x2, xI 1] [] w1 (fun a w' => xWp (d + 2) m_Vp_put 34 [xA 6 1, xI x1, xI x2, xI x3, xU] (x_pu a []) w' Q)))) ∧ (¬ (p_rg x1 0 3) → Q (xI (-1)) w1)))) : xWp (d + 2) m_Vp_put 0 [xA 6 1, xI x1, xI x2, xI x3, xU] [] w Q := by
  refine x_goN 2 (pc' := 2) (ls' := [xA 6 1, xI x1, xI x2, xI x3, xU]) (st' := [xI 0, xA 6 1]) (w' := w) rfl ?_
  refine x_goW (pc' := 5) (ls' := [xA 6 1, xI x1, xI x2, xI x3, xU]) (st' := []) (w' := x_set w 1 8 0) rfl (fun w1 ew1 => ?_)
  refine x_goN 1 (pc' := 6) (ls' := [xA 6 1, xI x1, xI x2, xI x3, xU]) (st' := [xI x1]) (w' := w1) rfl ?_
  refine x_call (y := m_Vp_isSheet) (as := [xI x1]) (rst := []) rfl [xI x1] rfl ?_
  refine S_Vp_isSheet (fun c1 => ?_) (fun c1 => ?_)
  · skip
    refine x_goN 1 (pc' := if (1 : Int32) = (0 : Int32) then 12 else 14) (ls' := [xA 6 1, xI x1, xI x2, xI x3, xU]) (st' := []) (w' := w1) rfl ?_
    refine x_brF (by decide) ?_
    refine x_goN 3 (pc' := 19) (ls' := [xA 6 1, xI x1, xI x2, xI x3, xU]) (st' := [xI x1, xA 50 33]) (w' := w1) rfl ?_
    refine x_ob (P := vp_in x1 4) (pc' := 20) (ls' := [xA 6 1, xI x1, xI x2, xI x3, xU]) (st' := [xA 3 (32 * 33 + x1.toNatClampNeg + 1)]) (w' := w1) rfl ((h w1 ew1).1 c1).1 ?_
    refine x_goN 3 (pc' := 25) (ls' := [xA 6 1, xI x1, xI x2, xI x3, xU]) (st' := [xI x1, xA 50 33, xA 3 (32 * 33 + x1.toNatClampNeg + 1)]) (w' := w1) rfl ?_
    refine x_ob (P := vp_in x1 4) (pc' := 26) (ls' := [xA 6 1, xI x1, xI x2, xI x3, xU]) (st' := [xA 3 (32 * 33 + x1.toNatClampNeg + 1), xA 3 (32 * 33 + x1.toNatClampNeg + 1)]) (w' := w1) rfl ((h w1 ew1).1 c1).2.1 ?_
    refine x_goN 3 (pc' := 31) (ls' := [xA 6 1, xI x1, xI x2, xI x3, xU]) (st' := [xI 1, xI x2, xI (w1 (32 * 33 + x1.toNatClampNeg + 1) 2), xA 3 (32 * 33 + x1.toNatClampNeg + 1)]) (w' := w1) rfl ?_
    refine x_call (y := m_Sh_faultOfCells) (as := [xA 3 (32 * 33 + x1.toNatClampNeg + 1), xI (w1 (32 * 33 + x1.toNatClampNeg + 1) 2), xI x2, xI 1]) (rst := []) rfl [xA 3 (32 * 33 + x1.toNatClampNeg + 1), xI (w1 (32 * 33 + x1.toNatClampNeg + 1) 2), xI x2, xI 1] rfl ?_
    exact ((h w1 ew1).1 c1).2.2
  · skip
    refine x_goN 1 (pc' := if (0 : Int32) = (0 : Int32) then 12 else 14) (ls' := [xA 6 1, xI x1, xI x2, xI x3, xU]) (st' := []) (w' := w1) rfl ?_
    refine x_brT (by decide) ?_
    refine x_goN 1 (pc' := 13) (ls' := [xA 6 1, xI x1, xI x2, xI x3, xU]) (st' := [xI (-1)]) (w' := w1) rfl ?_
    exact x_ret (P := True) rfl trivial ((h w1 ew1).2 c1)
theorem G_Vp_put_34 {d : Nat} {x1 : Int32} {x2 : Int32} {x3 : Int32} {s0 : Int32} {w : xWd} {Q : xMV → xWd → Prop} (h : ((s0 = 0 → (vp_in x1 4 ∧ xWp (d + 1) m_Sh_write 0 [xA 3 (32 * 33 + x1.toNatClampNeg + 1), xI x2, xI x3] [] w (fun a w' => xWp (d + 2) m_Vp_put 59 [xA 6 1, xI x1, xI x2, xI x3, xI s0] (x_pu a []) w' Q))) ∧ (¬ (s0 = 0) → (∀ w1 : xWd, w1 = x_set w 1 8 s0 → Q (xI ((-10) - s0)) w1)))) : xWp (d + 2) m_Vp_put 34 [xA 6 1, xI x1, xI x2, xI x3, xU] [xI s0] w Q := by
  refine x_goN 3 (pc' := if s0 = 0 then 48 else 41) (ls' := [xA 6 1, xI x1, xI x2, xI x3, xI s0]) (st' := []) (w' := w) rfl ?_
  refine x_br (fun c1 => ?_) (fun c1 => ?_)
  · skip
    refine x_goN 3 (pc' := 53) (ls' := [xA 6 1, xI x1, xI x2, xI x3, xI s0]) (st' := [xI x1, xA 50 33]) (w' := w) rfl ?_
    refine x_ob (P := vp_in x1 4) (pc' := 54) (ls' := [xA 6 1, xI x1, xI x2, xI x3, xI s0]) (st' := [xA 3 (32 * 33 + x1.toNatClampNeg + 1)]) (w' := w) rfl (h.1 c1).1 ?_
    refine x_goN 2 (pc' := 56) (ls' := [xA 6 1, xI x1, xI x2, xI x3, xI s0]) (st' := [xI x3, xI x2, xA 3 (32 * 33 + x1.toNatClampNeg + 1)]) (w' := w) rfl ?_
    refine x_call (y := m_Sh_write) (as := [xA 3 (32 * 33 + x1.toNatClampNeg + 1), xI x2, xI x3]) (rst := []) rfl [xA 3 (32 * 33 + x1.toNatClampNeg + 1), xI x2, xI x3] rfl ?_
    exact (h.1 c1).2
  · skip
    refine x_goN 2 (pc' := 44) (ls' := [xA 6 1, xI x1, xI x2, xI x3, xI s0]) (st' := [xI s0, xA 6 1]) (w' := w) rfl ?_
    refine x_call (y := m_Vp_faulty) (as := [xA 6 1, xI s0]) (rst := []) rfl [xA 6 1, xI s0] rfl ?_
    refine S_Vp_faulty (fun w1 ew1 => ?_)
    exact x_ret (P := True) rfl trivial ((h.2 c1) w1 ew1)
theorem G_Vp_put_59 {d : Nat} {x1 : Int32} {x2 : Int32} {x3 : Int32} {x4 : Int32} {w : xWd} {Q : xMV → xWd → Prop} (h : Q (xI 1) w) : xWp (d + 2) m_Vp_put 59 [xA 6 1, xI x1, xI x2, xI x3, xI x4] [] w Q := by
  refine x_goN 1 (pc' := 60) (ls' := [xA 6 1, xI x1, xI x2, xI x3, xI x4]) (st' := [xI 1]) (w' := w) rfl ?_
  exact x_ret (P := True) rfl trivial h
theorem G_Md_put_0 {d : Nat} {x1 : Int32} {x2 : Int32} {x3 : Int32} {w : xWd} {Q : xMV → xWd → Prop} (h : (∀ w1 : xWd, w1 = x_set w 2 0 0 → ((p_rg x1 0 3 → (vp_in x1 4 ∧ ((w1 67 x1.toNatClampNeg = (-9) → (∀ w2 : xWd, w2 = x_set w1 2 0 1 → Q (xI (-11)) w2)) ∧ (¬ (w1 67 x1.toNatClampNeg = (-9)) → (vp_in x1 4 ∧ ((p_wi x2 0 ((w1 68 x1.toNatClampNeg) - 1) → (vp_in x1 4 ∧ ((w1 67 x1.toNatClampNeg = 0 → (vp_in ((60 * x1) + x2) 240 ∧ ∀ w3 : xWd, w3 = x_set w1 69 (((60 * x1) + x2).toNatClampNeg) x3.toInt8.toInt32 → Q (xI 1) w3)) ∧ (¬ (w1 67 x1.toNatClampNeg = 0) → (vp_in x1 4 ∧ ((w1 67 x1.toNatClampNeg = 1 → (vp_in ((60 * x1) + x2) 240 ∧ ∀ w4 : xWd, w4 = x_set w1 69 (((60 * x1) + x2).toNatClampNeg) x3.toInt16.toInt32 → Q (xI 1) w4)) ∧ (¬ (w1 67 x1.toNatClampNeg = 1) → (vp_in ((60 * x1) + x2) 240 ∧ ∀ w5 : xWd, w5 = x_set w1 69 (((60 * x1) + x2).toNatClampNeg) x3 → Q (xI 1) w5)))))))) ∧ (¬ (p_wi x2 0 ((w1 68 x1.toNatClampNeg) - 1)) → (∀ w6 : xWd, w6 = x_set w1 2 0 3 → Q (xI (-13)) w6)))))))) ∧ (¬ (p_rg x1 0 3) → Q (xI (-1)) w1)))) : xWp (d + 2) m_Md_put 0 [xA 7 2, xI x1, xI x2, xI x3] [] w Q := by
  refine x_goN 2 (pc' := 2) (ls' := [xA 7 2, xI x1, xI x2, xI x3]) (st' := [xI 0, xA 7 2]) (w' := w) rfl ?_
  refine x_goW (pc' := 5) (ls' := [xA 7 2, xI x1, xI x2, xI x3]) (st' := []) (w' := x_set w 2 0 0) rfl (fun w1 ew1 => ?_)
  refine x_goN 1 (pc' := 6) (ls' := [xA 7 2, xI x1, xI x2, xI x3]) (st' := [xI x1]) (w' := w1) rfl ?_
  refine x_call (y := m_Md_isSheet) (as := [xI x1]) (rst := []) rfl [xI x1] rfl ?_
  refine S_Md_isSheet (fun c1 => ?_) (fun c1 => ?_)
  · skip
    refine x_goN 1 (pc' := if (1 : Int32) = (0 : Int32) then 12 else 14) (ls' := [xA 7 2, xI x1, xI x2, xI x3]) (st' := []) (w' := w1) rfl ?_
    refine x_brF (by decide) ?_
    refine x_goN 3 (pc' := 19) (ls' := [xA 7 2, xI x1, xI x2, xI x3]) (st' := [xI x1, xA 104 67]) (w' := w1) rfl ?_
    refine x_ob (P := vp_in x1 4) (pc' := 20) (ls' := [xA 7 2, xI x1, xI x2, xI x3]) (st' := [xI (w1 67 x1.toNatClampNeg)]) (w' := w1) rfl ((h w1 ew1).1 c1).1 ?_
    refine x_goN 2 (pc' := if w1 67 x1.toNatClampNeg = (-9) then 25 else 31) (ls' := [xA 7 2, xI x1, xI x2, xI x3]) (st' := []) (w' := w1) rfl ?_
    refine x_br (fun c2 => ?_) (fun c2 => ?_)
    · skip
      refine x_goN 2 (pc' := 27) (ls' := [xA 7 2, xI x1, xI x2, xI x3]) (st' := [xI 1, xA 7 2]) (w' := w1) rfl ?_
      refine x_call (y := m_Md_fails) (as := [xA 7 2, xI 1]) (rst := []) rfl [xA 7 2, xI 1] rfl ?_
      refine S_Md_fails (fun w2 ew2 => ?_)
      exact x_ret (P := True) rfl trivial ((((h w1 ew1).1 c1).2.1 c2) w2 ew2)
    · skip
      refine x_goN 5 (pc' := 38) (ls' := [xA 7 2, xI x1, xI x2, xI x3]) (st' := [xI x1, xA 104 68, xI 0, xI x2]) (w' := w1) rfl ?_
      refine x_ob (P := vp_in x1 4) (pc' := 39) (ls' := [xA 7 2, xI x1, xI x2, xI x3]) (st' := [xI (w1 68 x1.toNatClampNeg), xI 0, xI x2]) (w' := w1) rfl (((h w1 ew1).1 c1).2.2 c2).1 ?_
      refine x_goN 2 (pc' := 41) (ls' := [xA 7 2, xI x1, xI x2, xI x3]) (st' := [xI ((w1 68 x1.toNatClampNeg) - 1), xI 0, xI x2]) (w' := w1) rfl ?_
      refine x_call (y := m_Md_within) (as := [xI x2, xI 0, xI ((w1 68 x1.toNatClampNeg) - 1)]) (rst := []) rfl [xI x2, xI 0, xI ((w1 68 x1.toNatClampNeg) - 1)] rfl ?_
      refine S_Md_within (fun c3 => ?_) (fun c3 => ?_)
      · skip
        refine x_goN 1 (pc' := if (1 : Int32) = (0 : Int32) then 47 else 53) (ls' := [xA 7 2, xI x1, xI x2, xI x3]) (st' := []) (w' := w1) rfl ?_
        refine x_brF (by decide) ?_
        refine x_goN 10 (pc' := 68) (ls' := [xA 7 2, xI x1, xI x2, xI x3]) (st' := [xI x1, xA 104 67, xI ((60 * x1) + x2), xA 340 69]) (w' := w1) rfl ?_
        refine x_ob (P := vp_in x1 4) (pc' := 69) (ls' := [xA 7 2, xI x1, xI x2, xI x3]) (st' := [xI (w1 67 x1.toNatClampNeg), xI ((60 * x1) + x2), xA 340 69]) (w' := w1) rfl ((((h w1 ew1).1 c1).2.2 c2).2.1 c3).1 ?_
        refine x_goN 1 (pc' := if w1 67 x1.toNatClampNeg = 0 then 72 else 77) (ls' := [xA 7 2, xI x1, xI x2, xI x3]) (st' := [xI ((60 * x1) + x2), xA 340 69]) (w' := w1) rfl ?_
        refine x_br (fun c4 => ?_) (fun c4 => ?_)
        · skip
          refine x_goN 3 (pc' := 93) (ls' := [xA 7 2, xI x1, xI x2, xI x3]) (st' := [xI x3.toInt8.toInt32, xI ((60 * x1) + x2), xA 340 69]) (w' := w1) rfl ?_
          refine x_obW (P := vp_in ((60 * x1) + x2) 240) (pc' := 94) (ls' := [xA 7 2, xI x1, xI x2, xI x3]) (st' := []) (w' := x_set w1 69 (((60 * x1) + x2).toNatClampNeg) x3.toInt8.toInt32) rfl (((((h w1 ew1).1 c1).2.2 c2).2.1 c3).2.1 c4).1 (fun w3 ew3 => ?_)
          refine x_goN 1 (pc' := 95) (ls' := [xA 7 2, xI x1, xI x2, xI x3]) (st' := [xI 1]) (w' := w3) rfl ?_
          exact x_ret (P := True) rfl trivial ((((((h w1 ew1).1 c1).2.2 c2).2.1 c3).2.1 c4).2 w3 ew3)
        · skip
          refine x_goN 3 (pc' := 82) (ls' := [xA 7 2, xI x1, xI x2, xI x3]) (st' := [xI x1, xA 104 67, xI ((60 * x1) + x2), xA 340 69]) (w' := w1) rfl ?_
          refine x_ob (P := vp_in x1 4) (pc' := 83) (ls' := [xA 7 2, xI x1, xI x2, xI x3]) (st' := [xI (w1 67 x1.toNatClampNeg), xI ((60 * x1) + x2), xA 340 69]) (w' := w1) rfl (((((h w1 ew1).1 c1).2.2 c2).2.1 c3).2.2 c4).1 ?_
          refine x_goN 2 (pc' := if w1 67 x1.toNatClampNeg = 1 then 87 else 92) (ls' := [xA 7 2, xI x1, xI x2, xI x3]) (st' := [xI ((60 * x1) + x2), xA 340 69]) (w' := w1) rfl ?_
          refine x_br (fun c5 => ?_) (fun c5 => ?_)
          · skip
            refine x_goN 3 (pc' := 93) (ls' := [xA 7 2, xI x1, xI x2, xI x3]) (st' := [xI x3.toInt16.toInt32, xI ((60 * x1) + x2), xA 340 69]) (w' := w1) rfl ?_
            refine x_obW (P := vp_in ((60 * x1) + x2) 240) (pc' := 94) (ls' := [xA 7 2, xI x1, xI x2, xI x3]) (st' := []) (w' := x_set w1 69 (((60 * x1) + x2).toNatClampNeg) x3.toInt16.toInt32) rfl ((((((h w1 ew1).1 c1).2.2 c2).2.1 c3).2.2 c4).2.1 c5).1 (fun w4 ew4 => ?_)
            refine x_goN 1 (pc' := 95) (ls' := [xA 7 2, xI x1, xI x2, xI x3]) (st' := [xI 1]) (w' := w4) rfl ?_
            exact x_ret (P := True) rfl trivial (((((((h w1 ew1).1 c1).2.2 c2).2.1 c3).2.2 c4).2.1 c5).2 w4 ew4)
          · skip
            refine x_goN 1 (pc' := 93) (ls' := [xA 7 2, xI x1, xI x2, xI x3]) (st' := [xI x3, xI ((60 * x1) + x2), xA 340 69]) (w' := w1) rfl ?_
            refine x_obW (P := vp_in ((60 * x1) + x2) 240) (pc' := 94) (ls' := [xA 7 2, xI x1, xI x2, xI x3]) (st' := []) (w' := x_set w1 69 (((60 * x1) + x2).toNatClampNeg) x3) rfl ((((((h w1 ew1).1 c1).2.2 c2).2.1 c3).2.2 c4).2.2 c5).1 (fun w5 ew5 => ?_)
            refine x_goN 1 (pc' := 95) (ls' := [xA 7 2, xI x1, xI x2, xI x3]) (st' := [xI 1]) (w' := w5) rfl ?_
            exact x_ret (P := True) rfl trivial (((((((h w1 ew1).1 c1).2.2 c2).2.1 c3).2.2 c4).2.2 c5).2 w5 ew5)
      · skip
        refine x_goN 1 (pc' := if (0 : Int32) = (0 : Int32) then 47 else 53) (ls' := [xA 7 2, xI x1, xI x2, xI x3]) (st' := []) (w' := w1) rfl ?_
        refine x_brT (by decide) ?_
        refine x_goN 2 (pc' := 49) (ls' := [xA 7 2, xI x1, xI x2, xI x3]) (st' := [xI 3, xA 7 2]) (w' := w1) rfl ?_
        refine x_call (y := m_Md_fails) (as := [xA 7 2, xI 3]) (rst := []) rfl [xA 7 2, xI 3] rfl ?_
        refine S_Md_fails (fun w6 ew6 => ?_)
        exact x_ret (P := True) rfl trivial (((((h w1 ew1).1 c1).2.2 c2).2.2 c3) w6 ew6)
  · skip
    refine x_goN 1 (pc' := if (0 : Int32) = (0 : Int32) then 12 else 14) (ls' := [xA 7 2, xI x1, xI x2, xI x3]) (st' := []) (w' := w1) rfl ?_
    refine x_brT (by decide) ?_
    refine x_goN 1 (pc' := 13) (ls' := [xA 7 2, xI x1, xI x2, xI x3]) (st' := [xI (-1)]) (w' := w1) rfl ?_
    exact x_ret (P := True) rfl trivial ((h w1 ew1).2 c1)
theorem O_put (s : xS) (x1 x2 x3 : Int32) : oB m_Vp_put [xA 6 1, xI x1, xI x2, xI x3, xU] m_Md_put [xA 7 2, xI x1, xI x2, xI x3] s := by
  by_cases hp : p_rg x1 0 3
  · obtain ⟨k, hk, rfl⟩ := rg3.mp hp
    have hin : vp_in (nI k) 4 := z_in hk (by decide)
    by_cases hr : s_r s k = 0
    · refine ⟨(-11), uF s 1, fun w h => ?_, fun w h => ?_⟩
      · have hb := h.1.1 k hk
        refine G_Vp_put_0 (fun w1 e1 => ?_)
        have g1 := sC_f h e1
        rw [z_ad hk]
        refine ⟨fun _ => ⟨hin, hin, S_Sh_faultOfCells (g1.1.2.1 k hk) hb.1 hb.2 ?_⟩, fun c => absurd hp c⟩
        have ev : ∀ l, vFa (s_r (uF s 0) k) (s_n (uF s 0) k) l x2 1 = 1 := fun l => by unfold vFa; exact if_pos hr
        rw [ev]
        refine G_Vp_put_34 ⟨fun c => absurd c (by decide), fun _ w2 e2 => ?_⟩
        have g2 := sC_f g1.1 e2
        exact cF g2.1 (fC_tr g1.2 g2.2)
      · refine G_Md_put_0 (fun w1 e1 => ?_)
        have g1 := sM_f h e1
        have m1 : w1 67 k = -9 := (g1.1.2.1 k hk).1 hr
        refine ⟨fun _ => ⟨hin, ?_⟩, fun c => absurd hp c⟩
        rw [z_cl' (show k < 2 ^ 31 by omega), m1]
        refine ⟨fun _ w2 e2 => ?_, fun c => absurd rfl c⟩
        have g2 := sM_f g1.1 e2
        exact mF g2.1 (fM_tr g1.2 g2.2)
    · have hr0 : 0 < s_r s k := by omega
      by_cases hi : ∃ i, x2 = nI i ∧ i < s_n s k
      · obtain ⟨i, rfl, hi⟩ := hi
        refine ⟨1, uPu (uF s 0) k i x3, fun w h => ?_, fun w h => ?_⟩
        · have hb := h.1.1 k hk
          refine G_Vp_put_0 (fun w1 e1 => ?_)
          have g1 := sC_f h e1
          rw [z_ad hk]
          refine ⟨fun _ => ⟨hin, hin, S_Sh_faultOfCells (g1.1.2.1 k hk) hb.1 hb.2 ?_⟩, fun c => absurd hp c⟩
          have m2 : w1 (1057 + k) 2 = nI (s_r s k - 1) := ((g1.1.2.1 k hk).2.1 hr0).2.1
          have ev : vFa (s_r (uF s 0) k) (s_n (uF s 0) k) (nI (s_r s k - 1)) (nI i) 1 = 0 := by
            refine (vFa_own hr0).trans (if_pos ?_)
            rw [nI_toInt (by omega)]
            have : i < s_n (uF s 0) k := hi
            omega
          rw [m2, ev]
          refine G_Vp_put_34 ?_
          rw [z_ad hk]
          exact ⟨fun _ => ⟨hin, S_Sh_write g1.1 hk hr0 hi (fun w' h' f' => G_Vp_put_59 (cF h' (fC_tr g1.2 f')))⟩, fun c => absurd rfl c⟩
        · have hb := h.1.1 k hk
          refine G_Md_put_0 (fun w1 e1 => ?_)
          have g1 := sM_f h e1
          obtain ⟨m1, m2, m3⟩ := g1.1.2.1 k hk
          have m2' : w1 67 k = nI (s_r s k - 1) ∧ w1 68 k = nI (s_n s k) := m2 hr0
          have hn9 : ¬ nI (s_r s k - 1) = -9 := fun q => z_n9 (by omega) q.symm
          have hin2 : vp_in (nI (60 * k + i)) 240 := z_in (by omega) (by decide)
          rw [z_cl' (show k < 2 ^ 31 by omega), m2'.1, m2'.2, z_60]
          have fin : ∀ (x : Int32) (w2 : xWd), x = vCut (s_r (uF s 0) k) x3 → w2 = x_set w1 69 (nI (60 * k + i)).toNatClampNeg x → (xI 1 = xI 1 ∧ sM (uPu (uF s 0) k i x3) w2 ∧ fM w w2) := fun x w2 hx e2 => by
            have g2 := M_put g1.1 hk hr0 hi hx e2
            exact ⟨rfl, g2.1, fM_tr g1.2 g2.2⟩
          refine ⟨fun _ => ⟨hin, fun c => absurd c hn9, fun _ => ⟨hin, fun _ => ⟨hin, fun q => ⟨hin2, fun w2 e2 => fin _ w2 ?_ e2⟩, fun q => ⟨hin, fun q2 => ⟨hin2, fun w2 e2 => fin _ w2 ?_ e2⟩, fun q2 => ⟨hin2, fun w2 e2 => fin _ w2 ?_ e2⟩⟩⟩, fun c => absurd ((z_wi (b := 0) (by omega)).mpr ⟨i, rfl, hi⟩) c⟩⟩, fun c => absurd hp c⟩
          · have := (z_eq0 (by omega)).mp q
            have e : s_r (uF s 0) k = 1 := by show s_r s k = 1; omega
            unfold vCut; rw [if_pos e]
          · have := (z_eq (b := 1) (by omega) (by decide)).mp q2
            have e : s_r (uF s 0) k = 2 := by show s_r s k = 2; omega
            unfold vCut; rw [if_neg (by omega), if_pos e]
          · have n1 : ¬ s_r (uF s 0) k = 1 := fun e => q ((z_eq0 (by omega)).mpr (by have : s_r s k = 1 := e; omega))
            have n2 : ¬ s_r (uF s 0) k = 2 := fun e => q2 ((z_eq (b := 1) (by omega) (by decide)).mpr (by have : s_r s k = 2 := e; omega))
            unfold vCut; rw [if_neg n1, if_neg n2]
      · refine ⟨(-13), uF s 3, fun w h => ?_, fun w h => ?_⟩
        · have hb := h.1.1 k hk
          refine G_Vp_put_0 (fun w1 e1 => ?_)
          have g1 := sC_f h e1
          rw [z_ad hk]
          refine ⟨fun _ => ⟨hin, hin, S_Sh_faultOfCells (g1.1.2.1 k hk) hb.1 hb.2 ?_⟩, fun c => absurd hp c⟩
          have m2 : w1 (1057 + k) 2 = nI (s_r s k - 1) := ((g1.1.2.1 k hk).2.1 hr0).2.1
          have ev : vFa (s_r (uF s 0) k) (s_n (uF s 0) k) (nI (s_r s k - 1)) x2 1 = 3 := by
            refine (vFa_own hr0).trans (if_neg ?_)
            rintro ⟨q1, q2⟩
            obtain ⟨i, a, b, -⟩ := z_of q1
            have q2' : 1 + x2.toInt ≤ (s_n s k : Int) := q2
            exact hi ⟨i, a, by omega⟩
          rw [m2, ev]
          refine G_Vp_put_34 ⟨fun c => absurd c (by decide), fun _ w2 e2 => ?_⟩
          have g2 := sC_f g1.1 e2
          exact cF g2.1 (fC_tr g1.2 g2.2)
        · have hb := h.1.1 k hk
          refine G_Md_put_0 (fun w1 e1 => ?_)
          have g1 := sM_f h e1
          obtain ⟨m1, m2, m3⟩ := g1.1.2.1 k hk
          have m2' : w1 67 k = nI (s_r s k - 1) ∧ w1 68 k = nI (s_n s k) := m2 hr0
          have hn9 : ¬ nI (s_r s k - 1) = -9 := fun q => z_n9 (by omega) q.symm
          rw [z_cl' (show k < 2 ^ 31 by omega), m2'.1, m2'.2]
          refine ⟨fun _ => ⟨hin, fun c => absurd c hn9, fun _ => ⟨hin, fun c => absurd ((z_wi (b := 0) (by omega)).mp c) hi, fun _ w2 e2 => ?_⟩⟩, fun c => absurd hp c⟩
          have g2 := sM_f g1.1 e2
          exact mF g2.1 (fM_tr g1.2 g2.2)
  · exact ⟨(-1), uF s 0, fun w h => G_Vp_put_0 (fun w1 e1 => ⟨fun c => absurd c hp, fun _ => cF (sC_f h e1).1 (sC_f h e1).2⟩), fun w h => G_Md_put_0 (fun w1 e1 => ⟨fun c => absurd c hp, fun _ => mF (sM_f h e1).1 (sM_f h e1).2⟩)⟩
/-! sheet -/
theorem G_Ja_fill_0 {d : Nat} {a0 : Nat} {x1 : Int32} {w : xWd} {Q : xMV → xWd → Prop} (h : xWp d m_Ja_fill 5 [xA 160 a0, xI x1, xI 0, xI 60] [] w Q) : xWp d m_Ja_fill 0 [xA 160 a0, xI x1, xU, xU] [] w Q := by
  refine x_goN 5 (pc' := 5) (ls' := [xA 160 a0, xI x1, xI 0, xI 60]) (st' := []) (w' := w) rfl ?_
  exact h
theorem G_Ja_fill_5 {d : Nat} {a0 : Nat} {x1 : Int32} {x2 : Int32} {x3 : Int32} {w : xWd} {Q : xMV → xWd → Prop} (h : ((x3 ≤ x2 → Q xU w) ∧ (¬ (x3 ≤ x2) → (vp_in x2 60 ∧ ∀ w1 : xWd, w1 = x_set w a0 x2.toNatClampNeg x1 → xWp d m_Ja_fill 5 [xA 160 a0, xI x1, xI (x2 + 1), xI x3] [] w1 Q)))) : xWp d m_Ja_fill 5 [xA 160 a0, xI x1, xI x2, xI x3] [] w Q := by
  refine x_goN 3 (pc' := if x3 ≤ x2 then 20 else 10) (ls' := [xA 160 a0, xI x1, xI x2, xI x3]) (st' := []) (w' := w) rfl ?_
  refine x_br (fun c1 => ?_) (fun c1 => ?_)
  · skip
    exact x_ret (P := True) rfl trivial (h.1 c1)
  · skip
    refine x_goN 3 (pc' := 13) (ls' := [xA 160 a0, xI x1, xI x2, xI x3]) (st' := [xI x1, xI x2, xA 160 a0]) (w' := w) rfl ?_
    refine x_obW (P := vp_in x2 60) (pc' := 14) (ls' := [xA 160 a0, xI x1, xI x2, xI x3]) (st' := []) (w' := x_set w a0 x2.toNatClampNeg x1) rfl (h.2 c1).1 (fun w1 ew1 => ?_)
    refine x_goN 2 (pc' := 5) (ls' := [xA 160 a0, xI x1, xI (x2 + 1), xI x3]) (st' := []) (w' := w1) rfl ?_
    exact ((h.2 c1).2 w1 ew1)
theorem L_Ja_fill {d a : Nat} {v : Int32} {Q : xMV → xWd → Prop} : ∀ (m i : Nat) (w : xWd), i + m = 60 → (∀ j, j < i → w a j = v) → (∀ w', (∀ b, b ≠ a → w' b = w b) → (∀ j, j < 60 → w' a j = v) → Q xU w') → xWp d m_Ja_fill 5 [xA 160 a, xI v, xI (nI i), xI 60] [] w Q := by
  intro m
  induction m with
  | zero =>
    intro i w hi hw hq
    have e : i = 60 := by omega
    subst e
    exact G_Ja_fill_5 ⟨fun _ => hq w (fun _ _ => rfl) hw, fun c => absurd (by decide) c⟩
  | succ m ih =>
    intro i w hi hw hq
    refine G_Ja_fill_5 ⟨fun c => absurd ((z_le (a := 60) (by decide) (by omega)).mp c) (by omega), fun _ => ⟨z_in (by omega) (by decide), fun w1 e1 => ?_⟩⟩
    rw [z_cl' (by omega)] at e1
    rw [nI_1]
    refine ih (i + 1) w1 (by omega) (fun j hj => ?_) (fun w' hf hv => hq w' (fun b hb => by rw [hf b hb, e1, x_set_o hb]) hv)
    rw [e1, x_set_s]
    by_cases e : j = i
    · rw [e, upd_s]
    · rw [upd_o e]; exact hw j (by omega)
theorem G_Sh_getRow_0 {d : Nat} {a0 : Nat} {x1 : Int32} {x2 : Int32} {w : xWd} {Q : xMV → xWd → Prop} (h : (∀ w1 : xWd, w1 = x_set w a0 1 1 → (∀ w2 : xWd, w2 = x_set w1 a0 2 x1 → (∀ w3 : xWd, w3 = x_set w2 a0 3 (if 0 < if 60 < x2 then 60 else x2 then if 60 < x2 then 60 else x2 else 0) → xWp d m_Ja_fill 0 [xA 160 (32 * a0 + 1), xI 0, xU, xU] [] w3 (fun a w' => xWp (d + 1) m_Sh_getRow 32 [xA 3 a0, xI x1, xI x2] (x_pu a []) w' Q))))) : xWp (d + 1) m_Sh_getRow 0 [xA 3 a0, xI x1, xI x2] [] w Q := by
  refine x_goN 2 (pc' := 2) (ls' := [xA 3 a0, xI x1, xI x2]) (st' := [xI 1, xA 3 a0]) (w' := w) rfl ?_
  refine x_obW (P := (1 : Int32) = 0 ∨ (1 : Int32) = 1) (pc' := 5) (ls' := [xA 3 a0, xI x1, xI x2]) (st' := []) (w' := x_set w a0 1 1) rfl (by decide) (fun w1 ew1 => ?_)
  refine x_goN 2 (pc' := 7) (ls' := [xA 3 a0, xI x1, xI x2]) (st' := [xI x1, xA 3 a0]) (w' := w1) rfl ?_
  refine x_goW (pc' := 10) (ls' := [xA 3 a0, xI x1, xI x2]) (st' := []) (w' := x_set w1 a0 2 x1) rfl (fun w2 ew2 => ?_)
  refine x_goN 4 (pc' := 15) (ls' := [xA 3 a0, xI x1, xI x2]) (st' := [xI 60, xI x2, xI 0, xA 3 a0]) (w' := w2) rfl ?_
  refine x_ob (P := 1 ≤ (d + 1)) (pc' := 18) (ls' := [xA 3 a0, xI x1, xI x2]) (st' := [xI (if 60 < x2 then 60 else x2), xI 0, xA 3 a0]) (w' := w2) rfl (Nat.succ_le_succ (Nat.zero_le _)) ?_
  refine x_ob (P := 1 ≤ (d + 1)) (pc' := 21) (ls' := [xA 3 a0, xI x1, xI x2]) (st' := [xI (if 0 < if 60 < x2 then 60 else x2 then if 60 < x2 then 60 else x2 else 0), xA 3 a0]) (w' := w2) rfl (Nat.succ_le_succ (Nat.zero_le _)) ?_
  refine x_goW (pc' := 24) (ls' := [xA 3 a0, xI x1, xI x2]) (st' := []) (w' := x_set w2 a0 3 (if 0 < if 60 < x2 then 60 else x2 then if 60 < x2 then 60 else x2 else 0)) rfl (fun w3 ew3 => ?_)
  refine x_goN 3 (pc' := 29) (ls' := [xA 3 a0, xI x1, xI x2]) (st' := [xI 0, xA 160 (32 * a0 + 1)]) (w' := w3) rfl ?_
  refine x_call (y := m_Ja_fill) (as := [xA 160 (32 * a0 + 1), xI 0]) (rst := []) rfl [xA 160 (32 * a0 + 1), xI 0, xU, xU] rfl ?_
  exact (((h w1 ew1) w2 ew2) w3 ew3)
theorem G_Sh_getRow_32 {d : Nat} {a0 : Nat} {x1 : Int32} {x2 : Int32} {w : xWd} {Q : xMV → xWd → Prop} (h : Q xU w) : xWp (d + 1) m_Sh_getRow 32 [xA 3 a0, xI x1, xI x2] [] w Q := by
  exact x_ret (P := True) rfl trivial h
theorem z_size {n : Nat} (hn : n ≤ 60) : (if 0 < (if 60 < nI n then 60 else nI n) then (if 60 < nI n then 60 else nI n) else 0) = nI n := by
  have h1 : ¬ (60 : Int32) < nI n := fun c => by have := (z_lt (a := 60) (by decide) (by omega)).mp c; omega
  rw [if_neg h1]
  by_cases h2 : (0 : Int32) < nI n
  · rw [if_pos h2]
  · rw [if_neg h2]
    have : n = 0 := by
      have : ¬ 0 < n := fun q => h2 ((z_lt (a := 0) (by decide) (by omega)).mpr q)
      omega
    rw [this]; rfl
def uNew (s : xS) (k r n : Nat) : xS := uSh s k (r + 1) n (fun _ => 0)
theorem S_Sh_getRow {d k r n : Nat} {s : xS} {w : xWd} {Q : xMV → xWd → Prop} (h : sC s w) (hk : k < 4) (hr : r < 3) (hn : n ≤ 60) (hq : ∀ w', sC (uNew s k r n) w' → fC w w' → Q xU w') : xWp (d + 1) m_Sh_getRow 0 [xA 3 (1057 + k), xI (nI r), xI (nI n)] [] w Q := by
  refine G_Sh_getRow_0 (fun w1 e1 w2 e2 w3 e3 => G_Ja_fill_0 (L_Ja_fill 60 0 w3 rfl (fun j hj => absurd hj (Nat.not_lt_zero _)) (fun w' hf hv => G_Sh_getRow_32 (hq w' (sC_uSh h hk (by omega) hn (fun b b1 b2 => ?_) ⟨fun q => absurd q (by omega), fun _ => ⟨?_, ?_, ?_⟩, hv⟩) (fun b hb => ?_)))))
  · rw [hf b b2, e3, x_set_o b1, e2, x_set_o b1, e1, x_set_o b1]
  · rw [hf _ (by omega), e3, x_set_s, upd_o (by decide), e2, x_set_s, upd_o (by decide), e1, x_set_s, upd_s]
  · rw [hf _ (by omega), e3, x_set_s, upd_o (by decide), e2, x_set_s, upd_s]; rfl
  · rw [hf _ (by omega), e3, x_set_s, upd_s]; exact z_size hn
  · rw [hf _ (by omega), e3, x_set_o (by omega), e2, x_set_o (by omega), e1, x_set_o (by omega)]
theorem G_Vp_sheet_0 {d : Nat} {x1 : Int32} {x2 : Int32} {x3 : Int32} {w : xWd} {Q : xMV → xWd → Prop} (h : (∀ w1 : xWd, w1 = x_set w 1 8 0 → ((p_rg x1 0 3 → ((p_rg x2 0 2 → ((x3 ≤ 60 → ((0 ≤ x3 → (vp_in x1 4 ∧ xWp (d + 1) m_Sh_getRow 0 [xA 3 (32 * 33 + x1.toNatClampNeg + 1), xI x2, xI x3] [] w1 (fun a w' => xWp (d + 2) m_Vp_sheet 51 [xA 6 1, xI x1, xI x2, xI x3] (x_pu a []) w' Q))) ∧ (¬ (0 ≤ x3) → (∀ w2 : xWd, w2 = x_set w1 1 8 4 → Q (xI (-14)) w2)))) ∧ (¬ (x3 ≤ 60) → Q (xI (-2)) w1))) ∧ (¬ (p_rg x2 0 2) → Q (xI (-2)) w1))) ∧ (¬ (p_rg x1 0 3) → Q (xI (-1)) w1)))) : xWp (d + 2) m_Vp_sheet 0 [xA 6 1, xI x1, xI x2, xI x3] [] w Q := by
  refine x_goN 2 (pc' := 2) (ls' := [xA 6 1, xI x1, xI x2, xI x3]) (st' := [xI 0, xA 6 1]) (w' := w) rfl ?_
  refine x_goW (pc' := 5) (ls' := [xA 6 1, xI x1, xI x2, xI x3]) (st' := []) (w' := x_set w 1 8 0) rfl (fun w1 ew1 => ?_)
  refine x_goN 1 (pc' := 6) (ls' := [xA 6 1, xI x1, xI x2, xI x3]) (st' := [xI x1]) (w' := w1) rfl ?_
  refine x_call (y := m_Vp_isSheet) (as := [xI x1]) (rst := []) rfl [xI x1] rfl ?_
  refine S_Vp_isSheet (fun c1 => ?_) (fun c1 => ?_)
  · skip
    refine x_goN 1 (pc' := if (1 : Int32) = (0 : Int32) then 12 else 14) (ls' := [xA 6 1, xI x1, xI x2, xI x3]) (st' := []) (w' := w1) rfl ?_
    refine x_brF (by decide) ?_
    refine x_goN 1 (pc' := 15) (ls' := [xA 6 1, xI x1, xI x2, xI x3]) (st' := [xI x2]) (w' := w1) rfl ?_
    refine x_call (y := m_Vp_isLane) (as := [xI x2]) (rst := []) rfl [xI x2] rfl ?_
    refine S_Vp_isLane (fun c2 => ?_) (fun c2 => ?_)
    · skip
      refine x_goN 1 (pc' := if (1 : Int32) = (0 : Int32) then 27 else 21) (ls' := [xA 6 1, xI x1, xI x2, xI x3]) (st' := []) (w' := w1) rfl ?_
      refine x_brF (by decide) ?_
      refine x_goN 3 (pc' := if x3 ≤ 60 then 30 else 27) (ls' := [xA 6 1, xI x1, xI x2, xI x3]) (st' := []) (w' := w1) rfl ?_
      refine x_br (fun c3 => ?_) (fun c3 => ?_)
      · skip
        refine x_goN 2 (pc' := if 0 ≤ x3 then 40 else 34) (ls' := [xA 6 1, xI x1, xI x2, xI x3]) (st' := []) (w' := w1) rfl ?_
        refine x_br (fun c4 => ?_) (fun c4 => ?_)
        · skip
          refine x_goN 3 (pc' := 45) (ls' := [xA 6 1, xI x1, xI x2, xI x3]) (st' := [xI x1, xA 50 33]) (w' := w1) rfl ?_
          refine x_ob (P := vp_in x1 4) (pc' := 46) (ls' := [xA 6 1, xI x1, xI x2, xI x3]) (st' := [xA 3 (32 * 33 + x1.toNatClampNeg + 1)]) (w' := w1) rfl (((((h w1 ew1).1 c1).1 c2).1 c3).1 c4).1 ?_
          refine x_goN 2 (pc' := 48) (ls' := [xA 6 1, xI x1, xI x2, xI x3]) (st' := [xI x3, xI x2, xA 3 (32 * 33 + x1.toNatClampNeg + 1)]) (w' := w1) rfl ?_
          refine x_call (y := m_Sh_getRow) (as := [xA 3 (32 * 33 + x1.toNatClampNeg + 1), xI x2, xI x3]) (rst := []) rfl [xA 3 (32 * 33 + x1.toNatClampNeg + 1), xI x2, xI x3] rfl ?_
          exact (((((h w1 ew1).1 c1).1 c2).1 c3).1 c4).2
        · skip
          refine x_goN 2 (pc' := 36) (ls' := [xA 6 1, xI x1, xI x2, xI x3]) (st' := [xI 4, xA 6 1]) (w' := w1) rfl ?_
          refine x_call (y := m_Vp_faulty) (as := [xA 6 1, xI 4]) (rst := []) rfl [xA 6 1, xI 4] rfl ?_
          refine S_Vp_faulty (fun w2 ew2 => ?_)
          exact x_ret (P := True) rfl trivial ((((((h w1 ew1).1 c1).1 c2).1 c3).2 c4) w2 ew2)
      · skip
        refine x_goN 1 (pc' := 29) (ls' := [xA 6 1, xI x1, xI x2, xI x3]) (st' := [xI (-2)]) (w' := w1) rfl ?_
        exact x_ret (P := True) rfl trivial ((((h w1 ew1).1 c1).1 c2).2 c3)
    · skip
      refine x_goN 1 (pc' := if (0 : Int32) = (0 : Int32) then 27 else 21) (ls' := [xA 6 1, xI x1, xI x2, xI x3]) (st' := []) (w' := w1) rfl ?_
      refine x_brT (by decide) ?_
      refine x_goN 1 (pc' := 29) (ls' := [xA 6 1, xI x1, xI x2, xI x3]) (st' := [xI (-2)]) (w' := w1) rfl ?_
      exact x_ret (P := True) rfl trivial (((h w1 ew1).1 c1).2 c2)
  · skip
    refine x_goN 1 (pc' := if (0 : Int32) = (0 : Int32) then 12 else 14) (ls' := [xA 6 1, xI x1, xI x2, xI x3]) (st' := []) (w' := w1) rfl ?_
    refine x_brT (by decide) ?_
    refine x_goN 1 (pc' := 13) (ls' := [xA 6 1, xI x1, xI x2, xI x3]) (st' := [xI (-1)]) (w' := w1) rfl ?_
    exact x_ret (P := True) rfl trivial ((h w1 ew1).2 c1)
theorem G_Vp_sheet_51 {d : Nat} {x1 : Int32} {x2 : Int32} {x3 : Int32} {w : xWd} {Q : xMV → xWd → Prop} (h : Q (xI 1) w) : xWp (d + 2) m_Vp_sheet 51 [xA 6 1, xI x1, xI x2, xI x3] [] w Q := by
  refine x_goN 1 (pc' := 52) (ls' := [xA 6 1, xI x1, xI x2, xI x3]) (st' := [xI 1]) (w' := w) rfl ?_
  exact x_ret (P := True) rfl trivial h
theorem G_Md_sheet_0 {d : Nat} {x1 : Int32} {x2 : Int32} {x3 : Int32} {w : xWd} {Q : xMV → xWd → Prop} (h : (∀ w1 : xWd, w1 = x_set w 2 0 0 → ((p_rg x1 0 3 → ((p_rg x2 0 2 → ((x3 ≤ 60 → ((0 ≤ x3 → (vp_in x1 4 ∧ ∀ w2 : xWd, w2 = x_set w1 67 x1.toNatClampNeg x2 → (vp_in x1 4 ∧ ∀ w3 : xWd, w3 = x_set w2 68 x1.toNatClampNeg x3 → xWp (d + 2) m_Md_sheet 57 [xA 7 2, xI x1, xI x2, xI x3, xI 0] [] w3 Q))) ∧ (¬ (0 ≤ x3) → (∀ w4 : xWd, w4 = x_set w1 2 0 4 → Q (xI (-14)) w4)))) ∧ (¬ (x3 ≤ 60) → Q (xI (-2)) w1))) ∧ (¬ (p_rg x2 0 2) → Q (xI (-2)) w1))) ∧ (¬ (p_rg x1 0 3) → Q (xI (-1)) w1)))) : xWp (d + 2) m_Md_sheet 0 [xA 7 2, xI x1, xI x2, xI x3, xU] [] w Q := by
  refine x_goN 2 (pc' := 2) (ls' := [xA 7 2, xI x1, xI x2, xI x3, xU]) (st' := [xI 0, xA 7 2]) (w' := w) rfl ?_
  refine x_goW (pc' := 5) (ls' := [xA 7 2, xI x1, xI x2, xI x3, xU]) (st' := []) (w' := x_set w 2 0 0) rfl (fun w1 ew1 => ?_)
  refine x_goN 1 (pc' := 6) (ls' := [xA 7 2, xI x1, xI x2, xI x3, xU]) (st' := [xI x1]) (w' := w1) rfl ?_
  refine x_call (y := m_Md_isSheet) (as := [xI x1]) (rst := []) rfl [xI x1] rfl ?_
  refine S_Md_isSheet (fun c1 => ?_) (fun c1 => ?_)
  · skip
    refine x_goN 1 (pc' := if (1 : Int32) = (0 : Int32) then 12 else 14) (ls' := [xA 7 2, xI x1, xI x2, xI x3, xU]) (st' := []) (w' := w1) rfl ?_
    refine x_brF (by decide) ?_
    refine x_goN 1 (pc' := 15) (ls' := [xA 7 2, xI x1, xI x2, xI x3, xU]) (st' := [xI x2]) (w' := w1) rfl ?_
    refine x_call (y := m_Md_isSort) (as := [xI x2]) (rst := []) rfl [xI x2] rfl ?_
    refine S_Md_isSort (fun c2 => ?_) (fun c2 => ?_)
    · skip
      refine x_goN 1 (pc' := if (1 : Int32) = (0 : Int32) then 27 else 21) (ls' := [xA 7 2, xI x1, xI x2, xI x3, xU]) (st' := []) (w' := w1) rfl ?_
      refine x_brF (by decide) ?_
      refine x_goN 3 (pc' := if x3 ≤ 60 then 30 else 27) (ls' := [xA 7 2, xI x1, xI x2, xI x3, xU]) (st' := []) (w' := w1) rfl ?_
      refine x_br (fun c3 => ?_) (fun c3 => ?_)
      · skip
        refine x_goN 2 (pc' := if 0 ≤ x3 then 40 else 34) (ls' := [xA 7 2, xI x1, xI x2, xI x3, xU]) (st' := []) (w' := w1) rfl ?_
        refine x_br (fun c4 => ?_) (fun c4 => ?_)
        · skip
          refine x_goN 4 (pc' := 46) (ls' := [xA 7 2, xI x1, xI x2, xI x3, xU]) (st' := [xI x2, xI x1, xA 104 67]) (w' := w1) rfl ?_
          refine x_obW (P := vp_in x1 4) (pc' := 47) (ls' := [xA 7 2, xI x1, xI x2, xI x3, xU]) (st' := []) (w' := x_set w1 67 x1.toNatClampNeg x2) rfl (((((h w1 ew1).1 c1).1 c2).1 c3).1 c4).1 (fun w2 ew2 => ?_)
          refine x_goN 4 (pc' := 53) (ls' := [xA 7 2, xI x1, xI x2, xI x3, xU]) (st' := [xI x3, xI x1, xA 104 68]) (w' := w2) rfl ?_
          refine x_obW (P := vp_in x1 4) (pc' := 54) (ls' := [xA 7 2, xI x1, xI x2, xI x3, xU]) (st' := []) (w' := x_set w2 68 x1.toNatClampNeg x3) rfl ((((((h w1 ew1).1 c1).1 c2).1 c3).1 c4).2 w2 ew2).1 (fun w3 ew3 => ?_)
          refine x_goN 2 (pc' := 57) (ls' := [xA 7 2, xI x1, xI x2, xI x3, xI 0]) (st' := []) (w' := w3) rfl ?_
          exact (((((((h w1 ew1).1 c1).1 c2).1 c3).1 c4).2 w2 ew2).2 w3 ew3)
        · skip
          refine x_goN 2 (pc' := 36) (ls' := [xA 7 2, xI x1, xI x2, xI x3, xU]) (st' := [xI 4, xA 7 2]) (w' := w1) rfl ?_
          refine x_call (y := m_Md_fails) (as := [xA 7 2, xI 4]) (rst := []) rfl [xA 7 2, xI 4] rfl ?_
          refine S_Md_fails (fun w4 ew4 => ?_)
          exact x_ret (P := True) rfl trivial ((((((h w1 ew1).1 c1).1 c2).1 c3).2 c4) w4 ew4)
      · skip
        refine x_goN 1 (pc' := 29) (ls' := [xA 7 2, xI x1, xI x2, xI x3, xU]) (st' := [xI (-2)]) (w' := w1) rfl ?_
        exact x_ret (P := True) rfl trivial ((((h w1 ew1).1 c1).1 c2).2 c3)
    · skip
      refine x_goN 1 (pc' := if (0 : Int32) = (0 : Int32) then 27 else 21) (ls' := [xA 7 2, xI x1, xI x2, xI x3, xU]) (st' := []) (w' := w1) rfl ?_
      refine x_brT (by decide) ?_
      refine x_goN 1 (pc' := 29) (ls' := [xA 7 2, xI x1, xI x2, xI x3, xU]) (st' := [xI (-2)]) (w' := w1) rfl ?_
      exact x_ret (P := True) rfl trivial (((h w1 ew1).1 c1).2 c2)
  · skip
    refine x_goN 1 (pc' := if (0 : Int32) = (0 : Int32) then 12 else 14) (ls' := [xA 7 2, xI x1, xI x2, xI x3, xU]) (st' := []) (w' := w1) rfl ?_
    refine x_brT (by decide) ?_
    refine x_goN 1 (pc' := 13) (ls' := [xA 7 2, xI x1, xI x2, xI x3, xU]) (st' := [xI (-1)]) (w' := w1) rfl ?_
    exact x_ret (P := True) rfl trivial ((h w1 ew1).2 c1)
theorem G_Md_sheet_57 {d : Nat} {x1 : Int32} {x2 : Int32} {x3 : Int32} {x4 : Int32} {w : xWd} {Q : xMV → xWd → Prop} (h : ((60 ≤ x4 → Q (xI 1) w) ∧ (¬ (60 ≤ x4) → (vp_in ((60 * x1) + x4) 240 ∧ ∀ w1 : xWd, w1 = x_set w 69 (((60 * x1) + x4).toNatClampNeg) 0 → xWp (d + 2) m_Md_sheet 57 [xA 7 2, xI x1, xI x2, xI x3, xI (x4 + 1)] [] w1 Q)))) : xWp (d + 2) m_Md_sheet 57 [xA 7 2, xI x1, xI x2, xI x3, xI x4] [] w Q := by
  refine x_goN 3 (pc' := if 60 ≤ x4 then 83 else 64) (ls' := [xA 7 2, xI x1, xI x2, xI x3, xI x4]) (st' := []) (w' := w) rfl ?_
  refine x_br (fun c1 => ?_) (fun c1 => ?_)
  · skip
    refine x_goN 1 (pc' := 84) (ls' := [xA 7 2, xI x1, xI x2, xI x3, xI x4]) (st' := [xI 1]) (w' := w) rfl ?_
    exact x_ret (P := True) rfl trivial (h.1 c1)
  · skip
    refine x_goN 8 (pc' := 76) (ls' := [xA 7 2, xI x1, xI x2, xI x3, xI x4]) (st' := [xI 0, xI ((60 * x1) + x4), xA 340 69]) (w' := w) rfl ?_
    refine x_obW (P := vp_in ((60 * x1) + x4) 240) (pc' := 77) (ls' := [xA 7 2, xI x1, xI x2, xI x3, xI x4]) (st' := []) (w' := x_set w 69 (((60 * x1) + x4).toNatClampNeg) 0) rfl (h.2 c1).1 (fun w1 ew1 => ?_)
    refine x_goN 2 (pc' := 57) (ls' := [xA 7 2, xI x1, xI x2, xI x3, xI (x4 + 1)]) (st' := []) (w' := w1) rfl ?_
    exact ((h.2 c1).2 w1 ew1)
theorem L_Md_sheet {d k : Nat} {x2 x3 : Int32} {Q : xMV → xWd → Prop} (hk : k < 4) : ∀ (m i : Nat) (w : xWd), i + m = 60 → (∀ j, j < i → w 69 (60 * k + j) = 0) → (∀ w', (∀ b, b ≠ 69 → w' b = w b) → (∀ j, (j < 60 * k ∨ 60 * k + 60 ≤ j) → w' 69 j = w 69 j) → (∀ j, j < 60 → w' 69 (60 * k + j) = 0) → Q (xI 1) w') → xWp (d + 2) m_Md_sheet 57 [xA 7 2, xI (nI k), xI x2, xI x3, xI (nI i)] [] w Q := by
  intro m
  induction m with
  | zero =>
    intro i w hi hw hq
    have e : i = 60 := by omega
    subst e
    exact G_Md_sheet_57 ⟨fun _ => hq w (fun _ _ => rfl) (fun _ _ => rfl) hw, fun c => absurd (by decide) c⟩
  | succ m ih =>
    intro i w hi hw hq
    refine G_Md_sheet_57 ⟨fun c => absurd ((z_le (a := 60) (by decide) (by omega)).mp c) (by omega), fun _ => ?_⟩
    rw [z_60]
    refine ⟨z_in (by omega) (by decide), fun w1 e1 => ?_⟩
    rw [z_cl' (by omega)] at e1
    rw [nI_1]
    refine ih (i + 1) w1 (by omega) (fun j hj => ?_) (fun w' hf ho hv => hq w' (fun b hb => by rw [hf b hb, e1, x_set_o hb]) (fun j hj => by rw [ho j hj, e1, x_set_s, upd_o (by omega)]) hv)
    rw [e1, x_set_s]
    by_cases e : j = i
    · rw [e, upd_s]
    · rw [upd_o (by omega)]; exact hw j (by omega)
theorem O_sheet (s : xS) (x1 x2 x3 : Int32) : oB m_Vp_sheet [xA 6 1, xI x1, xI x2, xI x3] m_Md_sheet [xA 7 2, xI x1, xI x2, xI x3, xU] s := by
  by_cases hp : p_rg x1 0 3
  · by_cases hl : p_rg x2 0 2
    · by_cases h6 : x3 ≤ 60
      · by_cases h0 : 0 ≤ x3
        · obtain ⟨k, hk, rfl⟩ := rg3.mp hp
          obtain ⟨r, hr, rfl⟩ := rg2.mp hl
          have h0' := h0
          have h6' := h6
          rw [fa_le, e_l0] at h0'
          rw [fa_le, e_l60] at h6'
          obtain ⟨n, rfl, en, -⟩ := z_of h0'
          have hn : n ≤ 60 := by omega
          have hin : vp_in (nI k) 4 := z_in hk (by decide)
          refine ⟨1, uNew (uF s 0) k r n, fun w h => ?_, fun w h => ?_⟩
          · refine G_Vp_sheet_0 (fun w1 e1 => ?_)
            have g1 := sC_f h e1
            rw [z_ad hk]
            exact ⟨fun _ => ⟨fun _ => ⟨fun _ => ⟨fun _ => ⟨hin, S_Sh_getRow g1.1 hk hr hn (fun w' h' f' => G_Vp_sheet_51 (cF h' (fC_tr g1.2 f')))⟩, fun c => absurd h0 c⟩, fun c => absurd h6 c⟩, fun c => absurd hl c⟩, fun c => absurd hp c⟩
          · refine G_Md_sheet_0 (fun w1 e1 => ?_)
            have g1 := sM_f h e1
            refine ⟨fun _ => ⟨fun _ => ⟨fun _ => ⟨fun _ => ⟨hin, fun w2 e2 => ⟨hin, fun w3 e3 => ?_⟩⟩, fun c => absurd h0 c⟩, fun c => absurd h6 c⟩, fun c => absurd hl c⟩, fun c => absurd hp c⟩
            rw [z_cl' (by omega)] at e2 e3
            refine L_Md_sheet hk 60 0 w3 rfl (fun j hj => absurd hj (Nat.not_lt_zero _)) (fun w' hf ho hv => ?_)
            refine mF (sM_uSh g1.1 hk (by omega) hn (fun b b1 b2 b3 => ?_) (fun j hj hne => ⟨?_, ?_, fun i hi => ?_⟩) ⟨fun q => absurd q (by omega), fun _ => ⟨?_, ?_⟩, hv⟩) (fM_tr g1.2 (fun b b1 b2 => ?_))
            · rw [hf b b3, e3, x_set_o b2, e2, x_set_o b1]
            · rw [hf _ (by decide), e3, x_set_o (by decide), e2, x_set_s, upd_o hne]
            · rw [hf _ (by decide), e3, x_set_s, upd_o hne, e2, x_set_o (by decide)]
            · rw [ho _ (by omega), e3, x_set_o (by decide), e2, x_set_o (by decide)]
            · rw [hf _ (by decide), e3, x_set_o (by decide), e2, x_set_s, upd_s]; rfl
            · rw [hf _ (by decide), e3, x_set_s, upd_s]
            · rw [hf _ (by omega), e3, x_set_o (by omega), e2, x_set_o (by omega)]
        · refine ⟨(-14), uF s 4, fun w h => ?_, fun w h => ?_⟩
          · refine G_Vp_sheet_0 (fun w1 e1 => ⟨fun _ => ⟨fun _ => ⟨fun _ => ⟨fun c => absurd c h0, fun _ w2 e2 => ?_⟩, fun c => absurd h6 c⟩, fun c => absurd hl c⟩, fun c => absurd hp c⟩)
            have g1 := sC_f h e1
            have g2 := sC_f g1.1 e2
            exact cF g2.1 (fC_tr g1.2 g2.2)
          · refine G_Md_sheet_0 (fun w1 e1 => ⟨fun _ => ⟨fun _ => ⟨fun _ => ⟨fun c => absurd c h0, fun _ w2 e2 => ?_⟩, fun c => absurd h6 c⟩, fun c => absurd hl c⟩, fun c => absurd hp c⟩)
            have g1 := sM_f h e1
            have g2 := sM_f g1.1 e2
            exact mF g2.1 (fM_tr g1.2 g2.2)
      · exact ⟨(-2), uF s 0, fun w h => G_Vp_sheet_0 (fun w1 e1 => ⟨fun _ => ⟨fun _ => ⟨fun c => absurd c h6, fun _ => cF (sC_f h e1).1 (sC_f h e1).2⟩, fun c => absurd hl c⟩, fun c => absurd hp c⟩), fun w h => G_Md_sheet_0 (fun w1 e1 => ⟨fun _ => ⟨fun _ => ⟨fun c => absurd c h6, fun _ => mF (sM_f h e1).1 (sM_f h e1).2⟩, fun c => absurd hl c⟩, fun c => absurd hp c⟩)⟩
    · exact ⟨(-2), uF s 0, fun w h => G_Vp_sheet_0 (fun w1 e1 => ⟨fun _ => ⟨fun c => absurd c hl, fun _ => cF (sC_f h e1).1 (sC_f h e1).2⟩, fun c => absurd hp c⟩), fun w h => G_Md_sheet_0 (fun w1 e1 => ⟨fun _ => ⟨fun c => absurd c hl, fun _ => mF (sM_f h e1).1 (sM_f h e1).2⟩, fun c => absurd hp c⟩)⟩
  · exact ⟨(-1), uF s 0, fun w h => G_Vp_sheet_0 (fun w1 e1 => ⟨fun c => absurd c hp, fun _ => cF (sC_f h e1).1 (sC_f h e1).2⟩), fun w h => G_Md_sheet_0 (fun w1 e1 => ⟨fun c => absurd c hp, fun _ => mF (sM_f h e1).1 (sM_f h e1).2⟩)⟩

