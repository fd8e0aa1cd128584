/-! LINES: the call -/
theorem vFa_in2 {r n : Nat} {l x m : Int32} (h : vFa r n l x m = 0) : 0 < r ∧ ∃ i k, x = nI i ∧ m = nI k ∧ i + k ≤ n := by
  unfold vFa at h
  by_cases e : r = 0
  · rw [if_pos e] at h; exact absurd h (by decide)
  · rw [if_neg e] at h
    by_cases e2 : l = nI (r - 1)
    · rw [if_pos e2] at h
      by_cases e4 : m.toInt < 0
      · rw [if_pos e4] at h; exact absurd h (by decide)
      · rw [if_neg e4] at h
        by_cases e3 : 0 ≤ x.toInt ∧ m.toInt + x.toInt ≤ n
        · obtain ⟨i, a, b, -⟩ := z_of e3.1
          obtain ⟨k, a', b', -⟩ := z_of (v := m) (by omega)
          exact ⟨by omega, i, k, a, a', by omega⟩
        · rw [if_neg e3] at h; exact absurd h (by decide)
    · rw [if_neg e2] at h; exact absurd h (by decide)
def uL (s : xS) (T : xT) : xS := uR (uT s T) 0 (r_v s) (r_c s)
theorem uL_ok {s : xS} {T : xT} (h : sOk s) (hW : tW T) : sOk (uL s T) := ⟨h.1, hW, Nat.zero_le _, fun q hq => absurd hq (Nat.not_lt_zero _)⟩
theorem sC_lines {s : xS} {w w' : xWd} {T : xT} (h : sC s w) (hW : tW T) (hC : tC w' 34 T) (h39 : w' 39 2 = nI 0) (hf : ∀ a, (a = 1 ∨ (1057 ≤ a ∧ a ≤ 1060) ∨ 33825 ≤ a) → w' a = w a) : sC (uL s T) w' :=
  ⟨uL_ok h.1 hW, fun k hk => cSh_fr (h.2.1 k hk) (hf _ (by omega)) (hf _ (by omega)), hC, ⟨h39, fun q hq => absurd hq (Nat.not_lt_zero _)⟩, by rw [hf 1 (by omega)]; exact h.2.2.2.2.1, by rw [hf 1 (by omega)]; exact h.2.2.2.2.2⟩
theorem sM_lines {s : xS} {w w' : xWd} {T : xT} (h : sM s w) (hW : tW T) (hM : tM w' T) (h26 : w' 2 26 = nI 0) (hf : ∀ a, (67 ≤ a ∧ a ≤ 69) → w' a = w a) (h0 : w' 2 0 = w 2 0) (h1 : w' 2 1 = w 2 1) : sM (uL s T) w' := by
  refine ⟨uL_ok h.1 hW, fun k hk => ?_, hM, ⟨h26, fun q hq => absurd hq (Nat.not_lt_zero _)⟩, by rw [h1]; exact h.2.2.2.2.1, by rw [h0]; exact h.2.2.2.2.2⟩
  have := h.2.1 k hk
  show mSh (s_r s k) (s_n s k) (s_c s k) w' k
  unfold mSh
  rw [hf 67 (by omega), hf 68 (by omega), hf 69 (by omega)]; exact this
theorem G_Vp_lines_0 {d : Nat} {x1 : Int32} {x2 : Int32} {x3 : Int32} {x4 : Int32} {w : xWd} {Q : xMV → xWd → Prop} (h : (∀ w1 : xWd, w1 = x_set w 1 8 0 → ((p_rg x1 0 3 → ((p_rg x2 0 2 → (vp_in x1 4 ∧ xWp (d + 5) m_Sh_faultOfCells 0 [xA 3 (32 * 33 + x1.toNatClampNeg + 1), xI x2, xI x3, xI x4] [] w1 (fun a w' => xWp (d + 6) m_Vp_lines 37 [xA 6 1, xI x1, xI x2, xI x3, xI x4, xU, xU] (x_pu a []) w' Q))) ∧ (¬ (p_rg x2 0 2) → Q (xI (-2)) w1))) ∧ (¬ (p_rg x1 0 3) → Q (xI (-1)) w1)))) : xWp (d + 6) m_Vp_lines 0 [xA 6 1, xI x1, xI x2, xI x3, xI x4, xU, xU] [] w Q := by
  refine x_goN 2 (pc' := 2) (ls' := [xA 6 1, xI x1, xI x2, xI x3, xI x4, xU, xU]) (st' := [xI 0, xA 6 1]) (w' := w) rfl ?_
  refine x_goW (pc' := 5) (ls' := [xA 6 1, xI x1, xI x2, xI x3, xI x4, xU, xU]) (st' := []) (w' := x_set w 1 8 0) rfl (fun w1 ew1 => ?_)
  refine x_goN 1 (pc' := 6) (ls' := [xA 6 1, xI x1, xI x2, xI x3, xI x4, xU, xU]) (st' := [xI x1]) (w' := w1) rfl ?_
  refine x_call (y := m_Vp_isSheet) (as := [xI x1]) (rst := []) rfl [xI x1] rfl ?_
  refine S_Vp_isSheet (fun c1 => ?_) (fun c1 => ?_)
  · skip
    refine x_goN 1 (pc' := if (1 : Int32) = (0 : Int32) then 12 else 14) (ls' := [xA 6 1, xI x1, xI x2, xI x3, xI x4, xU, xU]) (st' := []) (w' := w1) rfl ?_
    refine x_brF (by decide) ?_
    refine x_goN 1 (pc' := 15) (ls' := [xA 6 1, xI x1, xI x2, xI x3, xI x4, xU, xU]) (st' := [xI x2]) (w' := w1) rfl ?_
    refine x_call (y := m_Vp_isLane) (as := [xI x2]) (rst := []) rfl [xI x2] rfl ?_
    refine S_Vp_isLane (fun c2 => ?_) (fun c2 => ?_)
    · skip
      refine x_goN 1 (pc' := if (1 : Int32) = (0 : Int32) then 21 else 24) (ls' := [xA 6 1, xI x1, xI x2, xI x3, xI x4, xU, xU]) (st' := []) (w' := w1) rfl ?_
      refine x_brF (by decide) ?_
      refine x_goN 3 (pc' := 29) (ls' := [xA 6 1, xI x1, xI x2, xI x3, xI x4, xU, xU]) (st' := [xI x1, xA 50 33]) (w' := w1) rfl ?_
      refine x_ob (P := vp_in x1 4) (pc' := 30) (ls' := [xA 6 1, xI x1, xI x2, xI x3, xI x4, xU, xU]) (st' := [xA 3 (32 * 33 + x1.toNatClampNeg + 1)]) (w' := w1) rfl (((h w1 ew1).1 c1).1 c2).1 ?_
      refine x_goN 3 (pc' := 34) (ls' := [xA 6 1, xI x1, xI x2, xI x3, xI x4, xU, xU]) (st' := [xI x4, xI x3, xI x2, xA 3 (32 * 33 + x1.toNatClampNeg + 1)]) (w' := w1) rfl ?_
      refine x_call (y := m_Sh_faultOfCells) (as := [xA 3 (32 * 33 + x1.toNatClampNeg + 1), xI x2, xI x3, xI x4]) (rst := []) rfl [xA 3 (32 * 33 + x1.toNatClampNeg + 1), xI x2, xI x3, xI x4] rfl ?_
      exact (((h w1 ew1).1 c1).1 c2).2
    · skip
      refine x_goN 1 (pc' := if (0 : Int32) = (0 : Int32) then 21 else 24) (ls' := [xA 6 1, xI x1, xI x2, xI x3, xI x4, xU, xU]) (st' := []) (w' := w1) rfl ?_
      refine x_brT (by decide) ?_
      refine x_goN 1 (pc' := 23) (ls' := [xA 6 1, xI x1, xI x2, xI x3, xI x4, xU, xU]) (st' := [xI (-2)]) (w' := w1) rfl ?_
      exact x_ret (P := True) rfl trivial (((h w1 ew1).1 c1).2 c2)
  · skip
    refine x_goN 1 (pc' := if (0 : Int32) = (0 : Int32) then 12 else 14) (ls' := [xA 6 1, xI x1, xI x2, xI x3, xI x4, xU, xU]) (st' := []) (w' := w1) rfl ?_
    refine x_brT (by decide) ?_
    refine x_goN 1 (pc' := 13) (ls' := [xA 6 1, xI x1, xI x2, xI x3, xI x4, xU, xU]) (st' := [xI (-1)]) (w' := w1) rfl ?_
    exact x_ret (P := True) rfl trivial ((h w1 ew1).2 c1)
theorem G_Vp_lines_37 {d : Nat} {x1 : Int32} {x2 : Int32} {x3 : Int32} {x4 : Int32} {s0 : Int32} {w : xWd} {Q : xMV → xWd → Prop} (h : ((s0 = 0 → (vp_in x1 4 ∧ xWp (d + 5) m_Tx_firstFault 0 [xA 4 36, xA 3 (32 * 33 + x1.toNatClampNeg + 1), xI x3, xI x4, xU] [] w (fun a w' => xWp (d + 6) m_Vp_lines 67 [xA 6 1, xI x1, xI x2, xI x3, xI x4, xI s0, xU] (x_pu a []) w' Q))) ∧ (¬ (s0 = 0) → (∀ w1 : xWd, w1 = x_set w 1 8 s0 → Q (xI ((-10) - s0)) w1)))) : xWp (d + 6) m_Vp_lines 37 [xA 6 1, xI x1, xI x2, xI x3, xI x4, xU, xU] [xI s0] w Q := by
  refine x_goN 3 (pc' := if s0 = 0 then 51 else 44) (ls' := [xA 6 1, xI x1, xI x2, xI x3, xI x4, xI s0, xU]) (st' := []) (w' := w) rfl ?_
  refine x_br (fun c1 => ?_) (fun c1 => ?_)
  · skip
    refine x_goN 5 (pc' := 60) (ls' := [xA 6 1, xI x1, xI x2, xI x3, xI x4, xI s0, xU]) (st' := [xI x1, xA 50 33, xA 4 36]) (w' := w) rfl ?_
    refine x_ob (P := vp_in x1 4) (pc' := 61) (ls' := [xA 6 1, xI x1, xI x2, xI x3, xI x4, xI s0, xU]) (st' := [xA 3 (32 * 33 + x1.toNatClampNeg + 1), xA 4 36]) (w' := w) rfl (h.1 c1).1 ?_
    refine x_goN 2 (pc' := 64) (ls' := [xA 6 1, xI x1, xI x2, xI x3, xI x4, xI s0, xU]) (st' := [xI x4, xI x3, xA 3 (32 * 33 + x1.toNatClampNeg + 1), xA 4 36]) (w' := w) rfl ?_
    refine x_call (y := m_Tx_firstFault) (as := [xA 4 36, xA 3 (32 * 33 + x1.toNatClampNeg + 1), xI x3, xI x4]) (rst := []) rfl [xA 4 36, xA 3 (32 * 33 + x1.toNatClampNeg + 1), xI x3, xI x4, xU] rfl ?_
    exact (h.1 c1).2
  · skip
    refine x_goN 2 (pc' := 47) (ls' := [xA 6 1, xI x1, xI x2, xI x3, xI x4, xI s0, xU]) (st' := [xI s0, xA 6 1]) (w' := w) rfl ?_
    refine x_call (y := m_Vp_faulty) (as := [xA 6 1, xI s0]) (rst := []) rfl [xA 6 1, xI s0] rfl ?_
    refine S_Vp_faulty (fun w1 ew1 => ?_)
    exact x_ret (P := True) rfl trivial ((h.2 c1) w1 ew1)
theorem G_Vp_lines_67 {d : Nat} {x1 : Int32} {x2 : Int32} {x3 : Int32} {x4 : Int32} {x5 : Int32} {s0 : Int32} {w : xWd} {Q : xMV → xWd → Prop} (h : ((s0 = (-9) → xWp (d + 5) m_Tr_becomeLike 0 [xA 5 34, xA 5 35] [] w (fun a w' => xWp (d + 6) m_Vp_lines 93 [xA 6 1, xI x1, xI x2, xI x3, xI x4, xI x5, xI s0] (x_pu a []) w' Q)) ∧ (¬ (s0 = (-9)) → Q (xI ((-100) - s0)) w))) : xWp (d + 6) m_Vp_lines 67 [xA 6 1, xI x1, xI x2, xI x3, xI x4, xI x5, xU] [xI s0] w Q := by
  refine x_goN 4 (pc' := if s0 = (-9) then 82 else 76) (ls' := [xA 6 1, xI x1, xI x2, xI x3, xI x4, xI x5, xI s0]) (st' := []) (w' := w) rfl ?_
  refine x_br (fun c1 => ?_) (fun c1 => ?_)
  · skip
    refine x_goN 4 (pc' := 90) (ls' := [xA 6 1, xI x1, xI x2, xI x3, xI x4, xI x5, xI s0]) (st' := [xA 5 35, xA 5 34]) (w' := w) rfl ?_
    refine x_call (y := m_Tr_becomeLike) (as := [xA 5 34, xA 5 35]) (rst := []) rfl [xA 5 34, xA 5 35] rfl ?_
    exact (h.1 c1)
  · skip
    refine x_goN 3 (pc' := 81) (ls' := [xA 6 1, xI x1, xI x2, xI x3, xI x4, xI x5, xI s0]) (st' := [xI ((-100) - s0)]) (w' := w) rfl ?_
    exact x_ret (P := True) rfl trivial (h.2 c1)
theorem G_Vp_lines_93 {d : Nat} {x1 : Int32} {x2 : Int32} {x3 : Int32} {x4 : Int32} {x5 : Int32} {x6 : Int32} {w : xWd} {Q : xMV → xWd → Prop} (h : xWp (d + 5) m_Rd_keepOnly 0 [xA 2 39, xI 0] [] w (fun a w' => xWp (d + 6) m_Vp_lines 101 [xA 6 1, xI x1, xI x2, xI x3, xI x4, xI x5, xI x6] (x_pu a []) w' Q)) : xWp (d + 6) m_Vp_lines 93 [xA 6 1, xI x1, xI x2, xI x3, xI x4, xI x5, xI x6] [] w Q := by
  refine x_goN 3 (pc' := 98) (ls' := [xA 6 1, xI x1, xI x2, xI x3, xI x4, xI x5, xI x6]) (st' := [xI 0, xA 2 39]) (w' := w) rfl ?_
  refine x_call (y := m_Rd_keepOnly) (as := [xA 2 39, xI 0]) (rst := []) rfl [xA 2 39, xI 0] rfl ?_
  exact h
theorem G_Vp_lines_101 {d : Nat} {x1 : Int32} {x2 : Int32} {x3 : Int32} {x4 : Int32} {x5 : Int32} {x6 : Int32} {w : xWd} {Q : xMV → xWd → Prop} (h : Q (xI (w 34 8)) w) : xWp (d + 6) m_Vp_lines 101 [xA 6 1, xI x1, xI x2, xI x3, xI x4, xI x5, xI x6] [] w Q := by
  refine x_goN 3 (pc' := 108) (ls' := [xA 6 1, xI x1, xI x2, xI x3, xI x4, xI x5, xI x6]) (st' := [xI (w 34 8)]) (w' := w) rfl ?_
  exact x_ret (P := True) rfl trivial h
theorem C_lines {q i n : Nat} {s : xS} {w : xWd} {Q : xMV → xWd → Prop} {x2 : Int32} (h : sC s w) (hq : q < 4) (hr : 0 < s_r s q) (hi : i + n ≤ s_n s q) (h1 : ∀ (T : xT) (w' : xWd), a_go (fun j => s_c s q (i + j)) n 0 (0, 0, tE) = .inr T → sC (uL s T) w' → fC w w' → Q (xI (nI (tn T))) w') (h2 : ∀ (p : Nat) (w' : xWd), a_go (fun j => s_c s q (i + j)) n 0 (0, 0, tE) = .inl p → sC s w' → fC w w' → Q (xI ((-100) - nI p)) w') (hpn : ∀ p, a_go (fun j => s_c s q (i + j)) n 0 (0, 0, tE) = .inl p → p < 2 ^ 31) : xWp 6 m_Vp_lines 37 [xA 6 1, xI (nI q), xI x2, xI (nI i), xI (nI n), xU, xU] [xI 0] w Q := by
  refine G_Vp_lines_37 ⟨fun _ => ⟨z_in hq (by decide), ?_⟩, fun c => absurd rfl c⟩
  rw [z_ad hq]
  refine S_Tx_firstFault h hq hr hi (fun p w1 hR g1 => ?_) (fun T w1 hR g1 hT1 => ?_)
  · have hC := sC_gTx h g1
    exact G_Vp_lines_67 ⟨fun c => absurd c.symm (z_n9 (hpn p hR)), fun _ => h2 p w1 hR hC.1 hC.2⟩
  · refine G_Vp_lines_67 ⟨fun _ => ?_, fun c => absurd rfl c⟩
    refine S_Tr_becomeLike (t := 34) (t2 := 35) (by decide) (by decide) (by decide) hT1 (fun w2 hT2 f2 => ?_)
    have h39 : w2 39 2 = nI (r_n s) := by
      rw [f2 39 (by decide) (by decide), g1 39 (by decide) (by decide) (by decide)]; exact h.2.2.2.1.1
    have hr8 := h.1.2.2.1
    have fin : ∀ w3, (∀ a, a ≠ 39 → w3 a = w2 a) → w3 39 2 = nI 0 → Q (xI (nI (tn T))) w3 := fun w3 f3 k3 =>
      h1 T w3 hR (sC_lines h hT2.2 (tC_fr hT2.1 (f3 _ (by decide)) (fun j hj => f3 _ (by omega))) k3 (fun a ha => by rw [f3 a (by omega), f2 a (by omega) (by omega), g1 a (by omega) (by omega) (by omega)])) (fun a ha => by rw [f3 a (by omega), f2 a (by omega) (by omega), g1 a (by omega) (by omega) (by omega)])
    refine G_Vp_lines_93 (G_Rd_keepOnly_0 ⟨fun c => absurd c (by decide), fun _ => ?_⟩)
    rw [h39]
    refine ⟨fun c => G_Vp_lines_101 ?_, fun c w3 e3 => G_Vp_lines_101 ?_⟩
    · have r0 : r_n s = 0 := by have := (z_le (b := 0) (by omega) (by decide)).mp c; omega
      rw [hT2.1.1]
      exact fin w2 (fun _ _ => rfl) (by rw [h39, r0])
    · rw [show w3 34 8 = nI (tn T) by rw [e3, x_set_o (by decide)]; exact hT2.1.1]
      exact fin w3 (fun a ha => by rw [e3, x_set_o ha]) (by rw [e3, x_set_s, upd_s]; rfl)
theorem G_Md_lines_0 {d : Nat} {x1 : Int32} {x2 : Int32} {x3 : Int32} {x4 : Int32} {w : xWd} {Q : xMV → xWd → Prop} (h : (∀ w1 : xWd, w1 = x_set w 2 0 0 → ((p_rg x1 0 3 → ((p_rg x2 0 2 → xWp (d + 2) m_Md_against 0 [xA 7 2, xI x1, xI x2, xI x3, xI x4] [] w1 (fun a w' => xWp (d + 3) m_Md_lines 33 [xA 7 2, xI x1, xI x2, xI x3, xI x4, xU, xU, xU] (x_pu a []) w' Q)) ∧ (¬ (p_rg x2 0 2) → Q (xI (-2)) w1))) ∧ (¬ (p_rg x1 0 3) → Q (xI (-1)) w1)))) : xWp (d + 3) m_Md_lines 0 [xA 7 2, xI x1, xI x2, xI x3, xI x4, xU, xU, xU] [] w Q := by
  refine x_goN 2 (pc' := 2) (ls' := [xA 7 2, xI x1, xI x2, xI x3, xI x4, xU, xU, xU]) (st' := [xI 0, xA 7 2]) (w' := w) rfl ?_
  refine x_goW (pc' := 5) (ls' := [xA 7 2, xI x1, xI x2, xI x3, xI x4, xU, xU, xU]) (st' := []) (w' := x_set w 2 0 0) rfl (fun w1 ew1 => ?_)
  refine x_goN 1 (pc' := 6) (ls' := [xA 7 2, xI x1, xI x2, xI x3, xI x4, xU, xU, xU]) (st' := [xI x1]) (w' := w1) rfl ?_
  refine x_call (y := m_Md_isSheet) (as := [xI x1]) (rst := []) rfl [xI x1] rfl ?_
  refine S_Md_isSheet (fun c1 => ?_) (fun c1 => ?_)
  · skip
    refine x_goN 1 (pc' := if (1 : Int32) = (0 : Int32) then 12 else 14) (ls' := [xA 7 2, xI x1, xI x2, xI x3, xI x4, xU, xU, xU]) (st' := []) (w' := w1) rfl ?_
    refine x_brF (by decide) ?_
    refine x_goN 1 (pc' := 15) (ls' := [xA 7 2, xI x1, xI x2, xI x3, xI x4, xU, xU, xU]) (st' := [xI x2]) (w' := w1) rfl ?_
    refine x_call (y := m_Md_isSort) (as := [xI x2]) (rst := []) rfl [xI x2] rfl ?_
    refine S_Md_isSort (fun c2 => ?_) (fun c2 => ?_)
    · skip
      refine x_goN 1 (pc' := if (1 : Int32) = (0 : Int32) then 21 else 24) (ls' := [xA 7 2, xI x1, xI x2, xI x3, xI x4, xU, xU, xU]) (st' := []) (w' := w1) rfl ?_
      refine x_brF (by decide) ?_
      refine x_goN 5 (pc' := 30) (ls' := [xA 7 2, xI x1, xI x2, xI x3, xI x4, xU, xU, xU]) (st' := [xI x4, xI x3, xI x2, xI x1, xA 7 2]) (w' := w1) rfl ?_
      refine x_call (y := m_Md_against) (as := [xA 7 2, xI x1, xI x2, xI x3, xI x4]) (rst := []) rfl [xA 7 2, xI x1, xI x2, xI x3, xI x4] rfl ?_
      exact (((h w1 ew1).1 c1).1 c2)
    · skip
      refine x_goN 1 (pc' := if (0 : Int32) = (0 : Int32) then 21 else 24) (ls' := [xA 7 2, xI x1, xI x2, xI x3, xI x4, xU, xU, xU]) (st' := []) (w' := w1) rfl ?_
      refine x_brT (by decide) ?_
      refine x_goN 1 (pc' := 23) (ls' := [xA 7 2, xI x1, xI x2, xI x3, xI x4, xU, xU, xU]) (st' := [xI (-2)]) (w' := w1) rfl ?_
      exact x_ret (P := True) rfl trivial (((h w1 ew1).1 c1).2 c2)
  · skip
    refine x_goN 1 (pc' := if (0 : Int32) = (0 : Int32) then 12 else 14) (ls' := [xA 7 2, xI x1, xI x2, xI x3, xI x4, xU, xU, xU]) (st' := []) (w' := w1) rfl ?_
    refine x_brT (by decide) ?_
    refine x_goN 1 (pc' := 13) (ls' := [xA 7 2, xI x1, xI x2, xI x3, xI x4, xU, xU, xU]) (st' := [xI (-1)]) (w' := w1) rfl ?_
    exact x_ret (P := True) rfl trivial ((h w1 ew1).2 c1)
theorem G_Md_lines_33 {d : Nat} {x1 : Int32} {x2 : Int32} {x3 : Int32} {x4 : Int32} {s0 : Int32} {w : xWd} {Q : xMV → xWd → Prop} (h : ((s0 = 0 → (∀ w1 : xWd, w1 = x_set w 2 10 ((60 * x1) + x3) → xWp (d + 2) m_Md_readAll 0 [xA 7 2, xI (((60 * x1) + x3) + x4)] [] w1 (fun a w' => xWp (d + 3) m_Md_lines 70 [xA 7 2, xI x1, xI x2, xI x3, xI x4, xI s0, xI ((60 * x1) + x3), xU] (x_pu a []) w' Q))) ∧ (¬ (s0 = 0) → (∀ w2 : xWd, w2 = x_set w 2 0 s0 → Q (xI ((-10) - s0)) w2)))) : xWp (d + 3) m_Md_lines 33 [xA 7 2, xI x1, xI x2, xI x3, xI x4, xU, xU, xU] [xI s0] w Q := by
  refine x_goN 3 (pc' := if s0 = 0 then 47 else 40) (ls' := [xA 7 2, xI x1, xI x2, xI x3, xI x4, xI s0, xU, xU]) (st' := []) (w' := w) rfl ?_
  refine x_br (fun c1 => ?_) (fun c1 => ?_)
  · skip
    refine x_goN 8 (pc' := 58) (ls' := [xA 7 2, xI x1, xI x2, xI x3, xI x4, xI s0, xI ((60 * x1) + x3), xU]) (st' := [xI ((60 * x1) + x3), xA 7 2]) (w' := w) rfl ?_
    refine x_goW (pc' := 61) (ls' := [xA 7 2, xI x1, xI x2, xI x3, xI x4, xI s0, xI ((60 * x1) + x3), xU]) (st' := []) (w' := x_set w 2 10 ((60 * x1) + x3)) rfl (fun w1 ew1 => ?_)
    refine x_goN 4 (pc' := 67) (ls' := [xA 7 2, xI x1, xI x2, xI x3, xI x4, xI s0, xI ((60 * x1) + x3), xU]) (st' := [xI (((60 * x1) + x3) + x4), xA 7 2]) (w' := w1) rfl ?_
    refine x_call (y := m_Md_readAll) (as := [xA 7 2, xI (((60 * x1) + x3) + x4)]) (rst := []) rfl [xA 7 2, xI (((60 * x1) + x3) + x4)] rfl ?_
    exact ((h.1 c1) w1 ew1)
  · skip
    refine x_goN 2 (pc' := 43) (ls' := [xA 7 2, xI x1, xI x2, xI x3, xI x4, xI s0, xU, xU]) (st' := [xI s0, xA 7 2]) (w' := w) rfl ?_
    refine x_call (y := m_Md_fails) (as := [xA 7 2, xI s0]) (rst := []) rfl [xA 7 2, xI s0] rfl ?_
    refine S_Md_fails (fun w2 ew2 => ?_)
    exact x_ret (P := True) rfl trivial ((h.2 c1) w2 ew2)
theorem G_Md_lines_70 {d : Nat} {x1 : Int32} {x2 : Int32} {x3 : Int32} {x4 : Int32} {x5 : Int32} {x6 : Int32} {s0 : Int32} {w : xWd} {Q : xMV → xWd → Prop} (h : ((s0 = 0 → Q (xI ((-100) - ((w 2 10) - x6))) w) ∧ (¬ (s0 = 0) → (∀ w1 : xWd, w1 = x_set w 2 5 (w 2 11) → xWp (d + 3) m_Md_lines 95 [xA 7 2, xI x1, xI x2, xI x3, xI x4, xI x5, xI x6, xI 0] [] w1 Q)))) : xWp (d + 3) m_Md_lines 70 [xA 7 2, xI x1, xI x2, xI x3, xI x4, xI x5, xI x6, xU] [xI s0] w Q := by
  refine x_goN 1 (pc' := if s0 = 0 then 73 else 84) (ls' := [xA 7 2, xI x1, xI x2, xI x3, xI x4, xI x5, xI x6, xU]) (st' := []) (w' := w) rfl ?_
  refine x_br (fun c1 => ?_) (fun c1 => ?_)
  · skip
    refine x_goN 6 (pc' := 83) (ls' := [xA 7 2, xI x1, xI x2, xI x3, xI x4, xI x5, xI x6, xU]) (st' := [xI ((-100) - ((w 2 10) - x6))]) (w' := w) rfl ?_
    exact x_ret (P := True) rfl trivial (h.1 c1)
  · skip
    refine x_goN 3 (pc' := 89) (ls' := [xA 7 2, xI x1, xI x2, xI x3, xI x4, xI x5, xI x6, xU]) (st' := [xI (w 2 11), xA 7 2]) (w' := w) rfl ?_
    refine x_goW (pc' := 92) (ls' := [xA 7 2, xI x1, xI x2, xI x3, xI x4, xI x5, xI x6, xU]) (st' := []) (w' := x_set w 2 5 (w 2 11)) rfl (fun w1 ew1 => ?_)
    refine x_goN 2 (pc' := 95) (ls' := [xA 7 2, xI x1, xI x2, xI x3, xI x4, xI x5, xI x6, xI 0]) (st' := []) (w' := w1) rfl ?_
    exact ((h.2 c1) w1 ew1)
theorem G_Md_lines_95 {d : Nat} {x1 : Int32} {x2 : Int32} {x3 : Int32} {x4 : Int32} {x5 : Int32} {x6 : Int32} {x7 : Int32} {w : xWd} {Q : xMV → xWd → Prop} (h : ((w 2 5 ≤ x7 → (∀ w1 : xWd, w1 = x_set w 2 26 0 → Q (xI (w1 2 5)) w1)) ∧ (¬ (w 2 5 ≤ x7) → (vp_in x7 8 ∧ (vp_in x7 8 ∧ ∀ w2 : xWd, w2 = x_set w 71 x7.toNatClampNeg (w 77 x7.toNatClampNeg) → (vp_in x7 8 ∧ (vp_in x7 8 ∧ ∀ w3 : xWd, w3 = x_set w2 72 x7.toNatClampNeg (w2 78 x7.toNatClampNeg) → (vp_in x7 8 ∧ (vp_in x7 8 ∧ ∀ w4 : xWd, w4 = x_set w3 73 x7.toNatClampNeg (w3 79 x7.toNatClampNeg) → (vp_in (2 * x7) 16 ∧ (vp_in (2 * x7) 16 ∧ ∀ w5 : xWd, w5 = x_set w4 74 ((2 * x7).toNatClampNeg) (w4 80 (2 * x7).toNatClampNeg) → (vp_in ((2 * x7) + 1) 16 ∧ (vp_in ((2 * x7) + 1) 16 ∧ ∀ w6 : xWd, w6 = x_set w5 74 (((2 * x7) + 1).toNatClampNeg) (w5 80 ((2 * x7) + 1).toNatClampNeg) → xWp (d + 3) m_Md_lines 95 [xA 7 2, xI x1, xI x2, xI x3, xI x4, xI x5, xI x6, xI (x7 + 1)] [] w6 Q))))))))))))) : xWp (d + 3) m_Md_lines 95 [xA 7 2, xI x1, xI x2, xI x3, xI x4, xI x5, xI x6, xI x7] [] w Q := by
  refine x_goN 4 (pc' := if w 2 5 ≤ x7 then 192 else 104) (ls' := [xA 7 2, xI x1, xI x2, xI x3, xI x4, xI x5, xI x6, xI x7]) (st' := []) (w' := w) rfl ?_
  refine x_br (fun c1 => ?_) (fun c1 => ?_)
  · skip
    refine x_goN 2 (pc' := 194) (ls' := [xA 7 2, xI x1, xI x2, xI x3, xI x4, xI x5, xI x6, xI x7]) (st' := [xI 0, xA 7 2]) (w' := w) rfl ?_
    refine x_goW (pc' := 197) (ls' := [xA 7 2, xI x1, xI x2, xI x3, xI x4, xI x5, xI x6, xI x7]) (st' := []) (w' := x_set w 2 26 0) rfl (fun w1 ew1 => ?_)
    refine x_goN 2 (pc' := 201) (ls' := [xA 7 2, xI x1, xI x2, xI x3, xI x4, xI x5, xI x6, xI x7]) (st' := [xI (w1 2 5)]) (w' := w1) rfl ?_
    exact x_ret (P := True) rfl trivial ((h.1 c1) w1 ew1)
  · skip
    refine x_goN 6 (pc' := 116) (ls' := [xA 7 2, xI x1, xI x2, xI x3, xI x4, xI x5, xI x6, xI x7]) (st' := [xI x7, xA 108 77, xI x7, xA 108 71]) (w' := w) rfl ?_
    refine x_ob (P := vp_in x7 8) (pc' := 117) (ls' := [xA 7 2, xI x1, xI x2, xI x3, xI x4, xI x5, xI x6, xI x7]) (st' := [xI (w 77 x7.toNatClampNeg), xI x7, xA 108 71]) (w' := w) rfl (h.2 c1).1 ?_
    refine x_obW (P := vp_in x7 8) (pc' := 118) (ls' := [xA 7 2, xI x1, xI x2, xI x3, xI x4, xI x5, xI x6, xI x7]) (st' := []) (w' := x_set w 71 x7.toNatClampNeg (w 77 x7.toNatClampNeg)) rfl (h.2 c1).2.1 (fun w2 ew2 => ?_)
    refine x_goN 6 (pc' := 130) (ls' := [xA 7 2, xI x1, xI x2, xI x3, xI x4, xI x5, xI x6, xI x7]) (st' := [xI x7, xA 108 78, xI x7, xA 108 72]) (w' := w2) rfl ?_
    refine x_ob (P := vp_in x7 8) (pc' := 131) (ls' := [xA 7 2, xI x1, xI x2, xI x3, xI x4, xI x5, xI x6, xI x7]) (st' := [xI (w2 78 x7.toNatClampNeg), xI x7, xA 108 72]) (w' := w2) rfl ((h.2 c1).2.2 w2 ew2).1 ?_
    refine x_obW (P := vp_in x7 8) (pc' := 132) (ls' := [xA 7 2, xI x1, xI x2, xI x3, xI x4, xI x5, xI x6, xI x7]) (st' := []) (w' := x_set w2 72 x7.toNatClampNeg (w2 78 x7.toNatClampNeg)) rfl ((h.2 c1).2.2 w2 ew2).2.1 (fun w3 ew3 => ?_)
    refine x_goN 6 (pc' := 144) (ls' := [xA 7 2, xI x1, xI x2, xI x3, xI x4, xI x5, xI x6, xI x7]) (st' := [xI x7, xA 108 79, xI x7, xA 108 73]) (w' := w3) rfl ?_
    refine x_ob (P := vp_in x7 8) (pc' := 145) (ls' := [xA 7 2, xI x1, xI x2, xI x3, xI x4, xI x5, xI x6, xI x7]) (st' := [xI (w3 79 x7.toNatClampNeg), xI x7, xA 108 73]) (w' := w3) rfl (((h.2 c1).2.2 w2 ew2).2.2 w3 ew3).1 ?_
    refine x_obW (P := vp_in x7 8) (pc' := 146) (ls' := [xA 7 2, xI x1, xI x2, xI x3, xI x4, xI x5, xI x6, xI x7]) (st' := []) (w' := x_set w3 73 x7.toNatClampNeg (w3 79 x7.toNatClampNeg)) rfl (((h.2 c1).2.2 w2 ew2).2.2 w3 ew3).2.1 (fun w4 ew4 => ?_)
    refine x_goN 10 (pc' := 162) (ls' := [xA 7 2, xI x1, xI x2, xI x3, xI x4, xI x5, xI x6, xI x7]) (st' := [xI (2 * x7), xA 116 80, xI (2 * x7), xA 116 74]) (w' := w4) rfl ?_
    refine x_ob (P := vp_in (2 * x7) 16) (pc' := 163) (ls' := [xA 7 2, xI x1, xI x2, xI x3, xI x4, xI x5, xI x6, xI x7]) (st' := [xI (w4 80 (2 * x7).toNatClampNeg), xI (2 * x7), xA 116 74]) (w' := w4) rfl ((((h.2 c1).2.2 w2 ew2).2.2 w3 ew3).2.2 w4 ew4).1 ?_
    refine x_obW (P := vp_in (2 * x7) 16) (pc' := 164) (ls' := [xA 7 2, xI x1, xI x2, xI x3, xI x4, xI x5, xI x6, xI x7]) (st' := []) (w' := x_set w4 74 ((2 * x7).toNatClampNeg) (w4 80 (2 * x7).toNatClampNeg)) rfl ((((h.2 c1).2.2 w2 ew2).2.2 w3 ew3).2.2 w4 ew4).2.1 (fun w5 ew5 => ?_)
    refine x_goN 14 (pc' := 184) (ls' := [xA 7 2, xI x1, xI x2, xI x3, xI x4, xI x5, xI x6, xI x7]) (st' := [xI ((2 * x7) + 1), xA 116 80, xI ((2 * x7) + 1), xA 116 74]) (w' := w5) rfl ?_
    refine x_ob (P := vp_in ((2 * x7) + 1) 16) (pc' := 185) (ls' := [xA 7 2, xI x1, xI x2, xI x3, xI x4, xI x5, xI x6, xI x7]) (st' := [xI (w5 80 ((2 * x7) + 1).toNatClampNeg), xI ((2 * x7) + 1), xA 116 74]) (w' := w5) rfl (((((h.2 c1).2.2 w2 ew2).2.2 w3 ew3).2.2 w4 ew4).2.2 w5 ew5).1 ?_
    refine x_obW (P := vp_in ((2 * x7) + 1) 16) (pc' := 186) (ls' := [xA 7 2, xI x1, xI x2, xI x3, xI x4, xI x5, xI x6, xI x7]) (st' := []) (w' := x_set w5 74 (((2 * x7) + 1).toNatClampNeg) (w5 80 ((2 * x7) + 1).toNatClampNeg)) rfl (((((h.2 c1).2.2 w2 ew2).2.2 w3 ew3).2.2 w4 ew4).2.2 w5 ew5).2.1 (fun w6 ew6 => ?_)
    refine x_goN 2 (pc' := 95) (ls' := [xA 7 2, xI x1, xI x2, xI x3, xI x4, xI x5, xI x6, xI (x7 + 1)]) (st' := []) (w' := w6) rfl ?_
    exact ((((((h.2 c1).2.2 w2 ew2).2.2 w3 ew3).2.2 w4 ew4).2.2 w5 ew5).2.2 w6 ew6)
theorem L_Md_lines {d : Nat} {T : xT} {w0 : xWd} {Q : xMV → xWd → Prop} {x1 x2 x3 x4 x5 x6 : Int32} (hW : tW T) (hT : mT w0 T) (h5 : w0 2 5 = nI (tn T)) (hq : ∀ w', tM w' T → w' 2 26 = nI 0 → (∀ a, a ≠ 2 → (a < 71 ∨ 74 < a) → w' a = w0 a) → (∀ j, j ≠ 26 → w' 2 j = w0 2 j) → Q (xI (nI (tn T))) w') : ∀ (m l : Nat) (w : xWd), l + m = tn T → (∀ a, (a < 71 ∨ 74 < a) → w a = w0 a) → (∀ j, j < l → w 71 j = nI (tk T j) ∧ w 72 j = nI (ta T j) ∧ w 73 j = nI (tm T j) ∧ ∀ i, i < tm T j → w 74 (2 * j + i) = nI (tu T (2 * j + i))) → xWp (d + 3) m_Md_lines 95 [xA 7 2, xI x1, xI x2, xI x3, xI x4, xI x5, xI x6, xI (nI l)] [] w Q := by
  have h8 := hW.1.1
  intro m
  induction m with
  | zero =>
    intro l w hl hf hv
    have e : l = tn T := by omega
    subst e
    have k5 : w 2 5 = nI (tn T) := by rw [hf 2 (by decide)]; exact h5
    refine G_Md_lines_95 ?_
    rw [k5]
    refine ⟨fun _ w1 e1 => ?_, fun c => absurd ((z_le (by omega) (by omega)).mpr (Nat.le_refl _)) c⟩
    have k1 : w1 2 5 = nI (tn T) := by rw [e1, x_set_s, upd_o (by decide)]; exact k5
    rw [k1]
    refine hq w1 ⟨k1, fun j hj => ?_⟩ (by rw [e1, x_set_s, upd_s]; rfl) (fun a a1 a2 => by rw [e1, x_set_o a1]; exact hf a a2) (fun j hj => by rw [e1, x_set_s, upd_o hj, hf 2 (by decide)])
    rw [e1, x_set_o (by decide), x_set_o (by decide), x_set_o (by decide), x_set_o (by decide)]
    exact hv j hj
  | succ m ih =>
    intro l w hl hf hv
    have hlt : l < tn T := by omega
    obtain ⟨g1, g2, g3, g4⟩ := hT l hlt
    have hml := (hW.2 l hlt).2.1
    have k5 : w 2 5 = nI (tn T) := by rw [hf 2 (by decide)]; exact h5
    have hin : vp_in (nI l) 8 := z_in (by omega) (by decide)
    have e2l : (2 : Int32) * nI l = nI (2 * l) := pk_mul 2 l
    have hin0 : vp_in (nI (2 * l)) 16 := z_in (by omega) (by decide)
    have hin1 : vp_in (nI (2 * l + 1)) 16 := z_in (by omega) (by decide)
    refine G_Md_lines_95 ?_
    rw [k5, e2l, nI_1, nI_1, z_cl' (show l < 2 ^ 31 by omega), z_cl' (show 2 * l < 2 ^ 31 by omega), z_cl' (show 2 * l + 1 < 2 ^ 31 by omega)]
    refine ⟨fun c => absurd ((z_le (by omega) (by omega)).mp c) (by omega), fun _ => ⟨hin, hin, fun w2 e2 => ⟨hin, hin, fun w3 e3 => ⟨hin, hin, fun w4 e4 => ⟨hin0, hin0, fun w5 e5 => ⟨hin1, hin1, fun w6 e6 => ?_⟩⟩⟩⟩⟩⟩
    rw [hf 77 (by decide), g1] at e2
    rw [show w2 78 l = nI (ta T l) by rw [e2, x_set_o (by decide), hf 78 (by decide)]; exact g2] at e3
    rw [show w3 79 l = nI (tm T l) by rw [e3, x_set_o (by decide), e2, x_set_o (by decide), hf 79 (by decide)]; exact g3] at e4
    have q5 : w4 80 = w0 80 := by rw [e4, x_set_o (by decide), e3, x_set_o (by decide), e2, x_set_o (by decide), hf 80 (by decide)]
    have q6 : w5 80 = w0 80 := by rw [e5, x_set_o (by decide)]; exact q5
    rw [q5] at e5
    rw [q6] at e6
    have a1 : w6 71 = upd (w 71) l (nI (tk T l)) := by rw [e6, x_set_o (by decide), e5, x_set_o (by decide), e4, x_set_o (by decide), e3, x_set_o (by decide), e2, x_set_s]
    have a2 : w6 72 = upd (w 72) l (nI (ta T l)) := by rw [e6, x_set_o (by decide), e5, x_set_o (by decide), e4, x_set_o (by decide), e3, x_set_s, e2, x_set_o (by decide)]
    have a3 : w6 73 = upd (w 73) l (nI (tm T l)) := by rw [e6, x_set_o (by decide), e5, x_set_o (by decide), e4, x_set_s, e3, x_set_o (by decide), e2, x_set_o (by decide)]
    have a4 : w6 74 = upd (upd (w 74) (2 * l) (w0 80 (2 * l))) (2 * l + 1) (w0 80 (2 * l + 1)) := by rw [e6, x_set_s, e5, x_set_s, e4, x_set_o (by decide), e3, x_set_o (by decide), e2, x_set_o (by decide)]
    refine ih (l + 1) w6 (by omega) (fun a ha => by rw [e6, x_set_o (by omega), e5, x_set_o (by omega), e4, x_set_o (by omega), e3, x_set_o (by omega), e2, x_set_o (by omega)]; exact hf a ha) (fun j hj => ?_)
    rw [a1, a2, a3, a4]
    by_cases e : j = l
    · subst e
      rw [upd_s, upd_s, upd_s]
      refine ⟨rfl, rfl, rfl, fun i hi => ?_⟩
      have g4i := g4 i hi
      rcases (show i = 0 ∨ i = 1 by omega) with rfl | rfl
      · rw [Nat.add_zero] at g4i
        show upd (upd (w 74) (2 * j) (w0 80 (2 * j))) (2 * j + 1) (w0 80 (2 * j + 1)) (2 * j) = nI (tu T (2 * j))
        rw [upd_o (by omega), upd_s]; exact g4i
      · rw [upd_s]; exact g4i
    · rw [upd_o e, upd_o e, upd_o e]
      obtain ⟨v1, v2, v3, v4⟩ := hv j (by omega)
      have hmj := (hW.2 j (by omega)).2.1
      exact ⟨v1, v2, v3, fun i hi => by rw [upd_o (by omega), upd_o (by omega)]; exact v4 i hi⟩
theorem M_lines {q i n : Nat} {s : xS} {w : xWd} {Q : xMV → xWd → Prop} {x2 : Int32} (h : sM s w) (hq : q < 4) (hi : i + n ≤ 60) (h1 : ∀ (T : xT) (w' : xWd), a_go (fun j => s_c s q (i + j)) n 0 (0, 0, tE) = .inr T → sM (uL s T) w' → fM w w' → Q (xI (nI (tn T))) w') (h2 : ∀ (p : Nat) (w' : xWd), a_go (fun j => s_c s q (i + j)) n 0 (0, 0, tE) = .inl p → sM s w' → fM w w' → Q (xI ((-100) - nI p)) w') : xWp 6 m_Md_lines 33 [xA 7 2, xI (nI q), xI x2, xI (nI i), xI (nI n), xU, xU, xU] [xI 0] w Q := by
  refine G_Md_lines_33 ⟨fun _ w1 e1 => ?_, fun c => absurd rfl c⟩
  rw [z_60] at e1
  rw [z_60, nI_add]
  have hF : ∀ j, j < n → w1 69 (60 * q + i + j) = s_c s q (i + j) := fun j hj => by
    rw [e1, x_set_o (by decide), ← (h.2.1 q hq).2.2 (i + j) (by omega)]; congr 1; omega
  refine S_Md_readAll (F := fun j => s_c s q (i + j)) (by omega) hF (by rw [e1, x_set_s, upd_s]) (fun w2 T hR hW hT h11 f2 => ?_) (fun w2 p hR h10 f2 => ?_)
  · refine G_Md_lines_70 ⟨fun c => absurd c n_10, fun _ w3 e3 => ?_⟩
    rw [h11] at e3
    have h8 := hW.1.1
    refine L_Md_lines hW (mT_fr hT (by rw [e3, x_set_o (by decide)]) (by rw [e3, x_set_o (by decide)]) (by rw [e3, x_set_o (by decide)]) (by rw [e3, x_set_o (by decide)])) (by rw [e3, x_set_s, upd_s]) (fun w4 hM4 h26 f4 g4 => ?_) (tn T) 0 w3 (Nat.zero_add _) (fun _ _ => rfl) (fun j hj => absurd hj (Nat.not_lt_zero _))
    have k2 : ∀ j, j ≠ 26 → j ≠ 5 → j ≠ 10 → j ≠ 11 → w4 2 j = w 2 j := fun j j1 j2 j3 j4 => by rw [g4 j j1, e3, x_set_s, upd_o j2, f2.2 j j3 j4, e1, x_set_s, upd_o j3]
    have ka : ∀ a, a ≠ 2 → (a < 71 ∨ 80 < a) → w4 a = w a := fun a a1 a2 => by rw [f4 a a1 (by omega), e3, x_set_o a1, f2.1 a a1 (by omega), e1, x_set_o a1]
    exact h1 T w4 hR (sM_lines h hW hM4 h26 (fun a ha => ka a (by omega) (by omega)) (k2 0 (by decide) (by decide) (by decide) (by decide)) (k2 1 (by decide) (by decide) (by decide) (by decide))) (fun a a1 a2 => ka a a1 (by omega))
  · refine G_Md_lines_70 ⟨fun _ => ?_, fun c => absurd rfl c⟩
    have k2 : ∀ j, j ≠ 10 → j ≠ 11 → w2 2 j = w 2 j := fun j j3 j4 => by rw [f2.2 j j3 j4, e1, x_set_s, upd_o j3]
    have ka : ∀ a, a ≠ 2 → (a < 77 ∨ 80 < a) → w2 a = w a := fun a a1 a2 => by rw [f2.1 a a1 a2, e1, x_set_o a1]
    rw [h10, show nI (60 * q + i + p) - nI (60 * q + i) = nI p from by rw [pk_sub (by omega)]; congr 1; omega]
    obtain ⟨s1, s2, s3, s4, s5, s6⟩ := h
    refine h2 p w2 hR ⟨s1, fun k hk => ?_, ?_, ?_, by rw [k2 1 (by decide) (by decide)]; exact s5, by rw [k2 0 (by decide) (by decide)]; exact s6⟩ (fun a a1 a2 => ka a a1 (by omega))
    · unfold mSh; rw [ka 67 (by omega) (by omega), ka 68 (by omega) (by omega), ka 69 (by omega) (by omega)]; exact s2 k hk
    · unfold tM; rw [k2 5 (by decide) (by decide), ka 71 (by omega) (by omega), ka 72 (by omega) (by omega), ka 73 (by omega) (by omega), ka 74 (by omega) (by omega)]; exact s3
    · unfold mRd; rw [k2 26 (by decide) (by decide), ka 92 (by omega) (by omega), ka 93 (by omega) (by omega)]; exact s4
theorem a_go_le {F : Nat → Int32} : ∀ (m p : Nat) (P : xAu) (p' : Nat), a_go F m p P = .inl p' → p' ≤ p + m
  | 0, p, P, p', h => by
    rw [a_go_0] at h
    split at h
    · cases h
    · cases h; omega
  | m + 1, p, P, p', h => by
    cases hst : a_st (F p) P with
    | none => rw [a_go_n hst] at h; cases h; omega
    | some P' =>
      rw [a_go_s hst] at h
      have := a_go_le m (p + 1) P' p' h
      omega
theorem O_lines (s : xS) (x1 x2 x3 x4 : Int32) : oB m_Vp_lines [xA 6 1, xI x1, xI x2, xI x3, xI x4, xU, xU] m_Md_lines [xA 7 2, xI x1, xI x2, xI x3, xI x4, xU, xU, xU] s := by
  by_cases hp : p_rg x1 0 3
  · by_cases hl : p_rg x2 0 2
    · obtain ⟨q, hq4, rfl⟩ := rg3.mp hp
      have hin : vp_in (nI q) 4 := z_in hq4 (by decide)
      have hC : ∀ (w : xWd) (Q : xMV → xWd → Prop), sC s w → (∀ w1, sC (uF s 0) w1 → fC w w1 → xWp 6 m_Vp_lines 37 [xA 6 1, xI (nI q), xI x2, xI x3, xI x4, xU, xU] [xI (nI (vFa (s_r s q) (s_n s q) x2 x3 x4))] w1 Q) → xWp 6 m_Vp_lines 0 [xA 6 1, xI (nI q), xI x2, xI x3, xI x4, xU, xU] [] w Q := by
        intro w Q h K
        have hb := h.1.1 q hq4
        refine G_Vp_lines_0 (fun w1 e1 => ?_)
        have g1 := sC_f h e1
        rw [z_ad hq4]
        exact ⟨fun _ => ⟨fun _ => ⟨hin, S_Sh_faultOfCells (g1.1.2.1 q hq4) hb.1 hb.2 (K w1 g1.1 g1.2)⟩, fun c => absurd hl c⟩, fun c => absurd hp c⟩
      have hM : ∀ (w : xWd) (Q : xMV → xWd → Prop), sM s w → (∀ w1, sM (uF s 0) w1 → fM w w1 → xWp 6 m_Md_lines 33 [xA 7 2, xI (nI q), xI x2, xI x3, xI x4, xU, xU, xU] [xI (nI (vFa (s_r s q) (s_n s q) x2 x3 x4))] w1 Q) → xWp 6 m_Md_lines 0 [xA 7 2, xI (nI q), xI x2, xI x3, xI x4, xU, xU, xU] [] w Q := by
        intro w Q h K
        have hb := h.1.1 q hq4
        refine G_Md_lines_0 (fun w1 e1 => ?_)
        have g1 := sM_f h e1
        exact ⟨fun _ => ⟨fun _ => S_Md_against hq4 (g1.1.2.1 q hq4) hb.1 hb.2 (K w1 g1.1 g1.2), fun c => absurd hl c⟩, fun c => absurd hp c⟩
      by_cases hv : vFa (s_r s q) (s_n s q) x2 x3 x4 = 0
      · obtain ⟨hr, i, n, rfl, rfl, hi⟩ := vFa_in2 hv
        cases hR : a_go (fun j => s_c s q (i + j)) n 0 (0, 0, tE) with
        | inl p =>
          refine ⟨((-100) - nI p), uF s 0, fun w h => hC w _ h (fun w1 h1 f1 => ?_), fun w h => hM w _ h (fun w1 h1 f1 => ?_)⟩
          · rw [hv]
            have hb := (h.1.1 q hq4).2
            refine C_lines (s := uF s 0) h1 hq4 hr hi (fun T w' hR' h' f' => ?_) (fun p' w' hR' h' f' => ?_) (fun p' hR' => ?_)
            · rw [show a_go (fun j => s_c (uF s 0) q (i + j)) n 0 (0, 0, tE) = .inl p from hR] at hR'; cases hR'
            · rw [show a_go (fun j => s_c (uF s 0) q (i + j)) n 0 (0, 0, tE) = .inl p from hR] at hR'
              cases hR'
              exact ⟨rfl, h', fC_tr f1 f'⟩
            · have := a_go_le n 0 _ _ hR'
              omega
          · rw [hv]
            have hb := (h.1.1 q hq4).2
            refine M_lines (s := uF s 0) h1 hq4 (by omega) (fun T w' hR' h' f' => ?_) (fun p' w' hR' h' f' => ?_)
            · rw [show a_go (fun j => s_c (uF s 0) q (i + j)) n 0 (0, 0, tE) = .inl p from hR] at hR'; cases hR'
            · rw [show a_go (fun j => s_c (uF s 0) q (i + j)) n 0 (0, 0, tE) = .inl p from hR] at hR'
              cases hR'
              exact ⟨rfl, h', fM_tr f1 f'⟩
        | inr T =>
          refine ⟨(nI (tn T)), uL (uF s 0) T, fun w h => hC w _ h (fun w1 h1 f1 => ?_), fun w h => hM w _ h (fun w1 h1 f1 => ?_)⟩
          · rw [hv]
            have hb := (h.1.1 q hq4).2
            refine C_lines (s := uF s 0) h1 hq4 hr hi (fun T' w' hR' h' f' => ?_) (fun p' w' hR' h' f' => ?_) (fun p' hR' => ?_)
            · rw [show a_go (fun j => s_c (uF s 0) q (i + j)) n 0 (0, 0, tE) = .inr T from hR] at hR'
              cases hR'
              exact ⟨rfl, h', fC_tr f1 f'⟩
            · rw [show a_go (fun j => s_c (uF s 0) q (i + j)) n 0 (0, 0, tE) = .inr T from hR] at hR'; cases hR'
            · rw [show a_go (fun j => s_c (uF s 0) q (i + j)) n 0 (0, 0, tE) = .inr T from hR] at hR'; cases hR'
          · rw [hv]
            have hb := (h.1.1 q hq4).2
            refine M_lines (s := uF s 0) h1 hq4 (by omega) (fun T' w' hR' h' f' => ?_) (fun p' w' hR' h' f' => ?_)
            · rw [show a_go (fun j => s_c (uF s 0) q (i + j)) n 0 (0, 0, tE) = .inr T from hR] at hR'
              cases hR'
              exact ⟨rfl, h', fM_tr f1 f'⟩
            · rw [show a_go (fun j => s_c (uF s 0) q (i + j)) n 0 (0, 0, tE) = .inr T from hR] at hR'; cases hR'
      · have h4 := vFa_4 (s_r s q) (s_n s q) x2 x3 x4
        refine ⟨((-10) - nI (vFa (s_r s q) (s_n s q) x2 x3 x4)), uF s (nI (vFa (s_r s q) (s_n s q) x2 x3 x4)), fun w h => hC w _ h (fun w1 h1 f1 => ?_), fun w h => hM w _ h (fun w1 h1 f1 => ?_)⟩
        · refine G_Vp_lines_37 ⟨fun c => absurd ((z_eq0 (by omega)).mp c) hv, fun _ w2 e2 => ?_⟩
          have g2 := sC_f h1 e2
          exact cF g2.1 (fC_tr f1 g2.2)
        · refine G_Md_lines_33 ⟨fun c => absurd ((z_eq0 (by omega)).mp c) hv, fun _ w2 e2 => ?_⟩
          have g2 := sM_f h1 e2
          exact mF g2.1 (fM_tr f1 g2.2)
    · exact ⟨(-2), uF s 0, fun w h => G_Vp_lines_0 (fun w1 e1 => ⟨fun _ => ⟨fun c => absurd c hl, fun _ => cF (sC_f h e1).1 (sC_f h e1).2⟩, fun c => absurd hp c⟩), fun w h => G_Md_lines_0 (fun w1 e1 => ⟨fun _ => ⟨fun c => absurd c hl, fun _ => mF (sM_f h e1).1 (sM_f h e1).2⟩, fun c => absurd hp c⟩)⟩
  · exact ⟨(-1), uF s 0, fun w h => G_Vp_lines_0 (fun w1 e1 => ⟨fun c => absurd c hp, fun _ => cF (sC_f h e1).1 (sC_f h e1).2⟩), fun w h => G_Md_lines_0 (fun w1 e1 => ⟨fun c => absurd c hp, fun _ => mF (sM_f h e1).1 (sM_f h e1).2⟩)⟩

