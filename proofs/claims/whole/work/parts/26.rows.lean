/-! SHEETS: lose, cell, put, sheet -/
theorem z_ad {k : Nat} (hk : k < 4) : 32 * 33 + (nI k).toNatClampNeg + 1 = 1057 + k := by
  rw [z_cl' (by omega)]; omega
theorem z_60 {k i : Nat} : (60 : Int32) * nI k + nI i = nI (60 * k + i) := by
  rw [show (60 : Int32) * nI k = nI (60 * k) from pk_mul 60 k, nI_add]
theorem rg3 {x : Int32} : p_rg x 0 3 ↔ ∃ k, k < 4 ∧ x = nI k := by
  unfold p_rg
  constructor
  · rintro ⟨h0, h1⟩
    obtain ⟨j, e1, e2, -⟩ := z_of h0
    exact ⟨j, by omega, e1⟩
  · rintro ⟨k, hk, rfl⟩
    rw [nI_toInt (by omega)]; omega
theorem rg2 {x : Int32} : p_rg x 0 2 ↔ ∃ k, k < 3 ∧ x = nI k := by
  unfold p_rg
  constructor
  · rintro ⟨h0, h1⟩
    obtain ⟨j, e1, e2, -⟩ := z_of h0
    exact ⟨j, by omega, e1⟩
  · rintro ⟨k, hk, rfl⟩
    rw [nI_toInt (by omega)]; omega
theorem uSh_ok {s : xS} {k r n : Nat} {c : Nat → Int32} (h : sOk s) (hr : r ≤ 3) (hn : n ≤ 60) : sOk (uSh s k r n c) := by
  refine ⟨fun j hj => ?_, h.2.1, h.2.2.1, h.2.2.2⟩
  show (if j = k then r else s_r s j) ≤ 3 ∧ (if j = k then n else s_n s j) ≤ 60
  by_cases e : j = k
  · rw [if_pos e, if_pos e]; exact ⟨hr, hn⟩
  · rw [if_neg e, if_neg e]; exact h.1 j hj
theorem sC_uSh {s : xS} {w w' : xWd} {k r n : Nat} {c : Nat → Int32} (h : sC s w) (hk : k < 4) (hr : r ≤ 3) (hn : n ≤ 60) (hf : ∀ a, a ≠ 1057 + k → a ≠ 32 * (1057 + k) + 1 → w' a = w a) (hs : cSh r n c w' k) : sC (uSh s k r n c) w' := by
  obtain ⟨h1, h2, h3, h4, h5, h6⟩ := h
  refine ⟨uSh_ok h1 hr hn, fun j hj => ?_, tC_fr h3 (hf _ (by omega) (by omega)) (fun i hi => hf _ (by omega) (by omega)), ?_, ?_, ?_⟩
  · show cSh (if j = k then r else s_r s j) (if j = k then n else s_n s j) (if j = k then c else s_c s j) w' j
    by_cases e : j = k
    · rw [if_pos e, if_pos e, if_pos e, e]; exact hs
    · rw [if_neg e, if_neg e, if_neg e]; exact cSh_fr (h2 j hj) (hf _ (by omega) (by omega)) (hf _ (by omega) (by omega))
  · unfold cRd; rw [hf 39 (by omega) (by omega), hf 1249 (by omega) (by omega), hf 1250 (by omega) (by omega)]; exact h4
  · rw [hf 1 (by omega) (by omega)]; exact h5
  · rw [hf 1 (by omega) (by omega)]; exact h6
theorem sM_uSh {s : xS} {w w' : xWd} {k r n : Nat} {c : Nat → Int32} (h : sM s w) (hk : k < 4) (hr : r ≤ 3) (hn : n ≤ 60) (hf : ∀ a, a ≠ 67 → a ≠ 68 → a ≠ 69 → w' a = w a) (ho : ∀ j, j < 4 → j ≠ k → w' 67 j = w 67 j ∧ w' 68 j = w 68 j ∧ ∀ i, i < 60 → w' 69 (60 * j + i) = w 69 (60 * j + i)) (hs : mSh r n c w' k) : sM (uSh s k r n c) w' := by
  obtain ⟨h1, h2, h3, h4, h5, h6⟩ := h
  have e2 := hf 2 (by omega) (by omega) (by omega)
  refine ⟨uSh_ok h1 hr hn, fun j hj => ?_, ?_, ?_, by rw [e2]; exact h5, by rw [e2]; exact h6⟩
  · show mSh (if j = k then r else s_r s j) (if j = k then n else s_n s j) (if j = k then c else s_c s j) w' j
    by_cases e : j = k
    · rw [if_pos e, if_pos e, if_pos e, e]; exact hs
    · rw [if_neg e, if_neg e, if_neg e]
      obtain ⟨o1, o2, o3⟩ := ho j hj e
      obtain ⟨m1, m2, m3⟩ := h2 j hj
      refine ⟨by rw [o1]; exact m1, by rw [o1, o2]; exact m2, fun i hi => (o3 i hi).trans (m3 i hi)⟩
  · unfold tM; rw [e2, hf 71 (by omega) (by omega) (by omega), hf 72 (by omega) (by omega) (by omega), hf 73 (by omega) (by omega) (by omega), hf 74 (by omega) (by omega) (by omega)]; exact h3
  · unfold mRd; rw [e2, hf 92 (by omega) (by omega) (by omega), hf 93 (by omega) (by omega) (by omega)]; exact h4
/-! lose -/
theorem G_Sh_loseRow_0 {d : Nat} {a0 : Nat} {w : xWd} {Q : xMV → xWd → Prop} (h : (∀ w1 : xWd, w1 = x_set w a0 1 0 → (∀ w2 : xWd, w2 = x_set w1 a0 3 0 → Q xU w2))) : xWp d m_Sh_loseRow 0 [xA 3 a0] [] w Q := by
  refine x_goN 2 (pc' := 2) (ls' := [xA 3 a0]) (st' := [xI 0, xA 3 a0]) (w' := w) rfl ?_
  refine x_obW (P := (0 : Int32) = 0 ∨ (0 : Int32) = 1) (pc' := 5) (ls' := [xA 3 a0]) (st' := []) (w' := x_set w a0 1 0) rfl (by decide) (fun w1 ew1 => ?_)
  refine x_goN 2 (pc' := 7) (ls' := [xA 3 a0]) (st' := [xI 0, xA 3 a0]) (w' := w1) rfl ?_
  refine x_goW (pc' := 10) (ls' := [xA 3 a0]) (st' := []) (w' := x_set w1 a0 3 0) rfl (fun w2 ew2 => ?_)
  exact x_ret (P := True) rfl trivial ((h w1 ew1) w2 ew2)
def uLo (s : xS) (k : Nat) : xS := uSh s k 0 (s_n s k) (s_c s k)
theorem S_Sh_loseRow {d k : Nat} {s : xS} {w : xWd} {Q : xMV → xWd → Prop} (h : sC s w) (hk : k < 4) (hq : ∀ w', sC (uLo s k) w' → fC w w' → Q xU w') : xWp d m_Sh_loseRow 0 [xA 3 (1057 + k)] [] w Q := by
  refine G_Sh_loseRow_0 (fun w1 e1 w2 e2 => hq w2 (sC_uSh h hk (by omega) (h.1.1 k hk).2 (fun a b1 b2 => by rw [e2, x_set_o b1, e1, x_set_o b1]) ⟨fun _ => ⟨?_, ?_⟩, fun q => absurd q (by omega), fun j hj => ?_⟩) (fun a ha => by rw [e2, x_set_o (by omega), e1, x_set_o (by omega)]))
  · rw [e2, x_set_s, upd_o (by decide), e1, x_set_s, upd_s]
  · rw [e2, x_set_s, upd_s]
  · rw [e2, x_set_o (by omega), e1, x_set_o (by omega)]; exact (h.2.1 k hk).2.2 j hj
theorem G_Vp_lose_0 {d : Nat} {x1 : Int32} {w : xWd} {Q : xMV → xWd → Prop} (h : ((p_rg x1 0 3 → (vp_in x1 4 ∧ ((w (32 * 33 + x1.toNatClampNeg + 1) 1 = 0 → (vp_in x1 4 ∧ xWp d m_Sh_loseRow 0 [xA 3 (32 * 33 + x1.toNatClampNeg + 1)] [] w (fun a w' => xWp (d + 1) m_Vp_lose 36 [xA 6 1, xI x1, xI 0] (x_pu a []) w' Q))) ∧ (¬ (w (32 * 33 + x1.toNatClampNeg + 1) 1 = 0) → (vp_in x1 4 ∧ xWp d m_Sh_loseRow 0 [xA 3 (32 * 33 + x1.toNatClampNeg + 1)] [] w (fun a w' => xWp (d + 1) m_Vp_lose 36 [xA 6 1, xI x1, xI 1] (x_pu a []) w' Q)))))) ∧ (¬ (p_rg x1 0 3) → Q (xI (-1)) w))) : xWp (d + 1) m_Vp_lose 0 [xA 6 1, xI x1, xU] [] w Q := by
  refine x_goN 1 (pc' := 1) (ls' := [xA 6 1, xI x1, xU]) (st' := [xI x1]) (w' := w) rfl ?_
  refine x_call (y := m_Vp_isSheet) (as := [xI x1]) (rst := []) rfl [xI x1] rfl ?_
  refine S_Vp_isSheet (fun c1 => ?_) (fun c1 => ?_)
  · skip
    refine x_goN 1 (pc' := if (1 : Int32) = (0 : Int32) then 7 else 9) (ls' := [xA 6 1, xI x1, xU]) (st' := []) (w' := w) rfl ?_
    refine x_brF (by decide) ?_
    refine x_goN 3 (pc' := 14) (ls' := [xA 6 1, xI x1, xU]) (st' := [xI x1, xA 50 33]) (w' := w) rfl ?_
    refine x_ob (P := vp_in x1 4) (pc' := 15) (ls' := [xA 6 1, xI x1, xU]) (st' := [xA 3 (32 * 33 + x1.toNatClampNeg + 1)]) (w' := w) rfl (h.1 c1).1 ?_
    refine x_goN 2 (pc' := if w (32 * 33 + x1.toNatClampNeg + 1) 1 = 0 then 25 else 21) (ls' := [xA 6 1, xI x1, xU]) (st' := []) (w' := w) rfl ?_
    refine x_br (fun c2 => ?_) (fun c2 => ?_)
    · skip
      refine x_goN 5 (pc' := 32) (ls' := [xA 6 1, xI x1, xI 0]) (st' := [xI x1, xA 50 33]) (w' := w) rfl ?_
      refine x_ob (P := vp_in x1 4) (pc' := 33) (ls' := [xA 6 1, xI x1, xI 0]) (st' := [xA 3 (32 * 33 + x1.toNatClampNeg + 1)]) (w' := w) rfl ((h.1 c1).2.1 c2).1 ?_
      refine x_call (y := m_Sh_loseRow) (as := [xA 3 (32 * 33 + x1.toNatClampNeg + 1)]) (rst := []) rfl [xA 3 (32 * 33 + x1.toNatClampNeg + 1)] rfl ?_
      exact ((h.1 c1).2.1 c2).2
    · skip
      refine x_goN 6 (pc' := 32) (ls' := [xA 6 1, xI x1, xI 1]) (st' := [xI x1, xA 50 33]) (w' := w) rfl ?_
      refine x_ob (P := vp_in x1 4) (pc' := 33) (ls' := [xA 6 1, xI x1, xI 1]) (st' := [xA 3 (32 * 33 + x1.toNatClampNeg + 1)]) (w' := w) rfl ((h.1 c1).2.2 c2).1 ?_
      refine x_call (y := m_Sh_loseRow) (as := [xA 3 (32 * 33 + x1.toNatClampNeg + 1)]) (rst := []) rfl [xA 3 (32 * 33 + x1.toNatClampNeg + 1)] rfl ?_
      exact ((h.1 c1).2.2 c2).2
  · skip
    refine x_goN 1 (pc' := if (0 : Int32) = (0 : Int32) then 7 else 9) (ls' := [xA 6 1, xI x1, xU]) (st' := []) (w' := w) rfl ?_
    refine x_brT (by decide) ?_
    refine x_goN 1 (pc' := 8) (ls' := [xA 6 1, xI x1, xU]) (st' := [xI (-1)]) (w' := w) rfl ?_
    exact x_ret (P := True) rfl trivial (h.2 c1)
theorem G_Vp_lose_36 {d : Nat} {x1 : Int32} {x2 : Int32} {w : xWd} {Q : xMV → xWd → Prop} (h : Q (xI x2) w) : xWp (d + 1) m_Vp_lose 36 [xA 6 1, xI x1, xI x2] [] w Q := by
  refine x_goN 1 (pc' := 37) (ls' := [xA 6 1, xI x1, xI x2]) (st' := [xI x2]) (w' := w) rfl ?_
  exact x_ret (P := True) rfl trivial h
theorem G_Md_lose_0 {d : Nat} {x1 : Int32} {w : xWd} {Q : xMV → xWd → Prop} (h : ((p_rg x1 0 3 → (vp_in x1 4 ∧ ((w 67 x1.toNatClampNeg = (-9) → (vp_in x1 4 ∧ ∀ w1 : xWd, w1 = x_set w 67 x1.toNatClampNeg (-9) → Q (xI 0) w1)) ∧ (¬ (w 67 x1.toNatClampNeg = (-9)) → (vp_in x1 4 ∧ ∀ w2 : xWd, w2 = x_set w 67 x1.toNatClampNeg (-9) → Q (xI 1) w2))))) ∧ (¬ (p_rg x1 0 3) → Q (xI (-1)) w))) : xWp (d + 2) m_Md_lose 0 [xA 7 2, xI x1, xU] [] w Q := by
  refine x_goN 1 (pc' := 1) (ls' := [xA 7 2, xI x1, xU]) (st' := [xI x1]) (w' := w) rfl ?_
  refine x_call (y := m_Md_isSheet) (as := [xI x1]) (rst := []) rfl [xI x1] rfl ?_
  refine S_Md_isSheet (fun c1 => ?_) (fun c1 => ?_)
  · skip
    refine x_goN 1 (pc' := if (1 : Int32) = (0 : Int32) then 7 else 9) (ls' := [xA 7 2, xI x1, xU]) (st' := []) (w' := w) rfl ?_
    refine x_brF (by decide) ?_
    refine x_goN 3 (pc' := 14) (ls' := [xA 7 2, xI x1, xU]) (st' := [xI x1, xA 104 67]) (w' := w) rfl ?_
    refine x_ob (P := vp_in x1 4) (pc' := 15) (ls' := [xA 7 2, xI x1, xU]) (st' := [xI (w 67 x1.toNatClampNeg)]) (w' := w) rfl (h.1 c1).1 ?_
    refine x_goN 2 (pc' := if w 67 x1.toNatClampNeg = (-9) then 20 else 24) (ls' := [xA 7 2, xI x1, xU]) (st' := []) (w' := w) rfl ?_
    refine x_br (fun c2 => ?_) (fun c2 => ?_)
    · skip
      refine x_goN 7 (pc' := 33) (ls' := [xA 7 2, xI x1, xI 0]) (st' := [xI (-9), xI x1, xA 104 67]) (w' := w) rfl ?_
      refine x_obW (P := vp_in x1 4) (pc' := 34) (ls' := [xA 7 2, xI x1, xI 0]) (st' := []) (w' := x_set w 67 x1.toNatClampNeg (-9)) rfl ((h.1 c1).2.1 c2).1 (fun w1 ew1 => ?_)
      refine x_goN 1 (pc' := 35) (ls' := [xA 7 2, xI x1, xI 0]) (st' := [xI 0]) (w' := w1) rfl ?_
      exact x_ret (P := True) rfl trivial (((h.1 c1).2.1 c2).2 w1 ew1)
    · skip
      refine x_goN 6 (pc' := 33) (ls' := [xA 7 2, xI x1, xI 1]) (st' := [xI (-9), xI x1, xA 104 67]) (w' := w) rfl ?_
      refine x_obW (P := vp_in x1 4) (pc' := 34) (ls' := [xA 7 2, xI x1, xI 1]) (st' := []) (w' := x_set w 67 x1.toNatClampNeg (-9)) rfl ((h.1 c1).2.2 c2).1 (fun w2 ew2 => ?_)
      refine x_goN 1 (pc' := 35) (ls' := [xA 7 2, xI x1, xI 1]) (st' := [xI 1]) (w' := w2) rfl ?_
      exact x_ret (P := True) rfl trivial (((h.1 c1).2.2 c2).2 w2 ew2)
  · skip
    refine x_goN 1 (pc' := if (0 : Int32) = (0 : Int32) then 7 else 9) (ls' := [xA 7 2, xI x1, xU]) (st' := []) (w' := w) rfl ?_
    refine x_brT (by decide) ?_
    refine x_goN 1 (pc' := 8) (ls' := [xA 7 2, xI x1, xU]) (st' := [xI (-1)]) (w' := w) rfl ?_
    exact x_ret (P := True) rfl trivial (h.2 c1)
theorem M_lose {k : Nat} {s : xS} {w w1 : xWd} (h : sM s w) (hk : k < 4) (e1 : w1 = x_set w 67 (nI k).toNatClampNeg (-9)) : sM (uLo s k) w1 ∧ fM w w1 := by
  rw [z_cl' (by omega)] at e1
  refine ⟨sM_uSh h hk (by omega) (h.1.1 k hk).2 (fun a b1 b2 b3 => by rw [e1, x_set_o b1]) (fun j hj hne => ⟨by rw [e1, x_set_s, upd_o hne], by rw [e1, x_set_o (by decide)], fun i hi => by rw [e1, x_set_o (by decide)]⟩) ⟨fun _ => by rw [e1, x_set_s, upd_s], fun q => absurd q (by omega), fun j hj => ?_⟩, e1 ▸ fM_set (by omega)⟩
  rw [e1, x_set_o (by decide)]; exact (h.2.1 k hk).2.2 j hj
theorem O_lose (s : xS) (x : Int32) : oB m_Vp_lose [xA 6 1, xI x, xU] m_Md_lose [xA 7 2, xI x, xU] s := by
  by_cases hp : p_rg x 0 3
  · obtain ⟨k, hk, rfl⟩ := rg3.mp hp
    have hin : vp_in (nI k) 4 := z_in hk (by decide)
    by_cases hr : s_r s k = 0
    · refine ⟨0, uLo s k, fun w h => ?_, fun w h => ?_⟩
      · refine G_Vp_lose_0 ?_
        rw [z_ad hk]
        exact ⟨fun _ => ⟨hin, fun _ => ⟨hin, S_Sh_loseRow h hk (fun w' h' f' => G_Vp_lose_36 (cF h' f'))⟩, fun c => absurd ((h.2.1 k hk).1 hr).1 c⟩, fun c => absurd hp c⟩
      · refine G_Md_lose_0 ⟨fun _ => ⟨hin, fun _ => ⟨hin, fun w1 e1 => mF (M_lose h hk e1).1 (M_lose h hk e1).2⟩, fun c => absurd ?_ c⟩, fun c => absurd hp c⟩
        rw [z_cl' (by omega)]; exact (h.2.1 k hk).1 hr
    · refine ⟨1, uLo s k, fun w h => ?_, fun w h => ?_⟩
      · refine G_Vp_lose_0 ?_
        rw [z_ad hk, ((h.2.1 k hk).2.1 (by omega)).1]
        exact ⟨fun _ => ⟨hin, fun c => absurd c n_10, fun _ => ⟨hin, S_Sh_loseRow h hk (fun w' h' f' => G_Vp_lose_36 (cF h' f'))⟩⟩, fun c => absurd hp c⟩
      · refine G_Md_lose_0 ⟨fun _ => ⟨hin, fun c => absurd c ?_, fun _ => ⟨hin, fun w1 e1 => mF (M_lose h hk e1).1 (M_lose h hk e1).2⟩⟩, fun c => absurd hp c⟩
        have := (h.1.1 k hk).1
        rw [z_cl' (by omega), ((h.2.1 k hk).2.1 (by omega)).1]; exact fun q => z_n9 (by omega) q.symm
  · exact ⟨(-1), s, fun w h => G_Vp_lose_0 ⟨fun c => absurd c hp, fun _ => cE h⟩, fun w h => G_Md_lose_0 ⟨fun c => absurd c hp, fun _ => mE h⟩⟩
/-! cell -/
theorem G_Sh_read_0 {d : Nat} {a0 : Nat} {x1 : Int32} {w : xWd} {Q : xMV → xWd → Prop} (h : ((p_hc (w a0 3) x1 1 → (vp_in x1 60 ∧ Q (xI (w (32 * a0 + 1) x1.toNatClampNeg)) w)) ∧ (¬ (p_hc (w a0 3) x1 1) → Q (xI 0) w))) : xWp (d + 1) m_Sh_read 0 [xA 3 a0, xI x1] [] w Q := by
  refine x_goN 3 (pc' := 3) (ls' := [xA 3 a0, xI x1]) (st' := [xI 1, xI x1, xA 3 a0]) (w' := w) rfl ?_
  refine x_call (y := m_Sh_hasCells) (as := [xA 3 a0, xI x1, xI 1]) (rst := []) rfl [xA 3 a0, xI x1, xI 1] rfl ?_
  refine S_Sh_hasCells (fun c1 => ?_) (fun c1 => ?_)
  · skip
    refine x_goN 1 (pc' := if (1 : Int32) = (0 : Int32) then 18 else 9) (ls' := [xA 3 a0, xI x1]) (st' := []) (w' := w) rfl ?_
    refine x_brF (by decide) ?_
    refine x_goN 3 (pc' := 14) (ls' := [xA 3 a0, xI x1]) (st' := [xI x1, xA 160 (32 * a0 + 1)]) (w' := w) rfl ?_
    refine x_ob (P := vp_in x1 60) (pc' := 15) (ls' := [xA 3 a0, xI x1]) (st' := [xI (w (32 * a0 + 1) x1.toNatClampNeg)]) (w' := w) rfl (h.1 c1).1 ?_
    refine x_goN 1 (pc' := 19) (ls' := [xA 3 a0, xI x1]) (st' := [xI (w (32 * a0 + 1) x1.toNatClampNeg)]) (w' := w) rfl ?_
    exact x_ret (P := True) rfl trivial (h.1 c1).2
  · skip
    refine x_goN 1 (pc' := if (0 : Int32) = (0 : Int32) then 18 else 9) (ls' := [xA 3 a0, xI x1]) (st' := []) (w' := w) rfl ?_
    refine x_brT (by decide) ?_
    refine x_goN 1 (pc' := 19) (ls' := [xA 3 a0, xI x1]) (st' := [xI 0]) (w' := w) rfl ?_
    exact x_ret (P := True) rfl trivial (h.2 c1)
theorem S_Sh_read {d k r n i : Nat} {c : Nat → Int32} {w : xWd} {Q : xMV → xWd → Prop} (hs : cSh r n c w k) (hr : 0 < r) (hn : n ≤ 60) (hi : i < n) (h : Q (xI (c i)) w) : xWp (d + 1) m_Sh_read 0 [xA 3 (1057 + k), xI (nI i)] [] w Q := by
  refine G_Sh_read_0 ?_
  rw [(hs.2.1 hr).2.2, z_cl' (by omega), hs.2.2 i (by omega)]
  refine ⟨fun _ => ⟨z_in (by omega) (by decide), h⟩, fun c => absurd ((p_hc_iff hn (by decide)).mpr ?_) c⟩
  rw [nI_toInt (by omega), e_l1]; omega
theorem vFa_0 {r n : Nat} {l x : Int32} (h : vFa r n l x 1 = 0) : 0 < r ∧ l = nI (r - 1) ∧ ∃ i, x = nI i ∧ i < n := by
  unfold vFa at h
  by_cases e : r = 0
  · rw [if_pos e] at h; exact absurd h (by decide)
  · rw [if_neg e] at h
    by_cases e2 : l = nI (r - 1)
    · rw [if_pos e2, e_l1, if_neg (by decide)] at h
      by_cases e3 : 0 ≤ x.toInt ∧ 1 + x.toInt ≤ n
      · obtain ⟨i, a, b, -⟩ := z_of e3.1
        exact ⟨by omega, e2, i, a, by omega⟩
      · rw [if_neg e3] at h; exact absurd h (by decide)
    · rw [if_neg e2] at h; exact absurd h (by decide)
theorem vFa_4 (r n : Nat) (l x m : Int32) : vFa r n l x m ≤ 4 := by
  unfold vFa
  split
  · decide
  · split
    · split
      · decide
      · split <;> decide
    · decide
theorem G_Vp_cell_0 {d : Nat} {x1 : Int32} {x2 : Int32} {x3 : Int32} {w : xWd} {Q : xMV → xWd → Prop} (h : (∀ w1 : xWd, w1 = x_set w 1 8 0 → ((p_rg x1 0 3 → ((p_rg x3 0 2 → (vp_in x1 4 ∧ xWp (d + 1) m_Sh_faultOfCells 0 [xA 3 (32 * 33 + x1.toNatClampNeg + 1), xI x3, xI x2, xI 1] [] w1 (fun a w' => xWp (d + 2) m_Vp_cell 36 [xA 6 1, xI x1, xI x2, xI x3] (x_pu a [xA 6 1]) w' Q))) ∧ (¬ (p_rg x3 0 2) → Q (xJ (-9223372036854775808)) w1))) ∧ (¬ (p_rg x1 0 3) → Q (xJ (-9223372036854775808)) w1)))) : xWp (d + 2) m_Vp_cell 0 [xA 6 1, xI x1, xI x2, xI x3] [] w Q := by
  refine x_goN 2 (pc' := 2) (ls' := [xA 6 1, xI x1, xI x2, xI x3]) (st' := [xI 0, xA 6 1]) (w' := w) rfl ?_
  refine x_goW (pc' := 5) (ls' := [xA 6 1, xI x1, xI x2, xI x3]) (st' := []) (w' := x_set w 1 8 0) rfl (fun w1 ew1 => ?_)
  refine x_goN 1 (pc' := 6) (ls' := [xA 6 1, xI x1, xI x2, xI x3]) (st' := [xI x1]) (w' := w1) rfl ?_
  refine x_call (y := m_Vp_isSheet) (as := [xI x1]) (rst := []) rfl [xI x1] rfl ?_
  refine S_Vp_isSheet (fun c1 => ?_) (fun c1 => ?_)
  · skip
    refine x_goN 1 (pc' := if (1 : Int32) = (0 : Int32) then 19 else 12) (ls' := [xA 6 1, xI x1, xI x2, xI x3]) (st' := []) (w' := w1) rfl ?_
    refine x_brF (by decide) ?_
    refine x_goN 1 (pc' := 13) (ls' := [xA 6 1, xI x1, xI x2, xI x3]) (st' := [xI x3]) (w' := w1) rfl ?_
    refine x_call (y := m_Vp_isLane) (as := [xI x3]) (rst := []) rfl [xI x3] rfl ?_
    refine S_Vp_isLane (fun c2 => ?_) (fun c2 => ?_)
    · skip
      refine x_goN 1 (pc' := if (1 : Int32) = (0 : Int32) then 19 else 23) (ls' := [xA 6 1, xI x1, xI x2, xI x3]) (st' := []) (w' := w1) rfl ?_
      refine x_brF (by decide) ?_
      refine x_goN 4 (pc' := 29) (ls' := [xA 6 1, xI x1, xI x2, xI x3]) (st' := [xI x1, xA 50 33, xA 6 1]) (w' := w1) rfl ?_
      refine x_ob (P := vp_in x1 4) (pc' := 30) (ls' := [xA 6 1, xI x1, xI x2, xI x3]) (st' := [xA 3 (32 * 33 + x1.toNatClampNeg + 1), xA 6 1]) (w' := w1) rfl (((h w1 ew1).1 c1).1 c2).1 ?_
      refine x_goN 3 (pc' := 33) (ls' := [xA 6 1, xI x1, xI x2, xI x3]) (st' := [xI 1, xI x2, xI x3, xA 3 (32 * 33 + x1.toNatClampNeg + 1), xA 6 1]) (w' := w1) rfl ?_
      refine x_call (y := m_Sh_faultOfCells) (as := [xA 3 (32 * 33 + x1.toNatClampNeg + 1), xI x3, xI x2, xI 1]) (rst := [xA 6 1]) rfl [xA 3 (32 * 33 + x1.toNatClampNeg + 1), xI x3, xI x2, xI 1] rfl ?_
      exact (((h w1 ew1).1 c1).1 c2).2
    · skip
      refine x_goN 1 (pc' := if (0 : Int32) = (0 : Int32) then 19 else 23) (ls' := [xA 6 1, xI x1, xI x2, xI x3]) (st' := []) (w' := w1) rfl ?_
      refine x_brT (by decide) ?_
      refine x_goN 1 (pc' := 22) (ls' := [xA 6 1, xI x1, xI x2, xI x3]) (st' := [xJ (-9223372036854775808)]) (w' := w1) rfl ?_
      exact x_ret (P := True) rfl trivial (((h w1 ew1).1 c1).2 c2)
  · skip
    refine x_goN 1 (pc' := if (0 : Int32) = (0 : Int32) then 19 else 12) (ls' := [xA 6 1, xI x1, xI x2, xI x3]) (st' := []) (w' := w1) rfl ?_
    refine x_brT (by decide) ?_
    refine x_goN 1 (pc' := 22) (ls' := [xA 6 1, xI x1, xI x2, xI x3]) (st' := [xJ (-9223372036854775808)]) (w' := w1) rfl ?_
    exact x_ret (P := True) rfl trivial ((h w1 ew1).2 c1)
theorem G_Vp_cell_36 {d : Nat} {x1 : Int32} {x2 : Int32} {x3 : Int32} {s1 : Int32} {w : xWd} {Q : xMV → xWd → Prop} (h : (∀ w1 : xWd, w1 = x_set w 1 8 s1 → ((w1 1 8 = 0 → (vp_in x1 4 ∧ xWp (d + 1) m_Sh_read 0 [xA 3 (32 * 33 + x1.toNatClampNeg + 1), xI x2] [] w1 (fun a w' => xWp (d + 2) m_Vp_cell 56 [xA 6 1, xI x1, xI x2, xI x3] (x_pu a []) w' Q))) ∧ (¬ (w1 1 8 = 0) → Q (xJ (-9223372036854775808)) w1)))) : xWp (d + 2) m_Vp_cell 36 [xA 6 1, xI x1, xI x2, xI x3] [xI s1, xA 6 1] w Q := by
  refine x_goW (pc' := 39) (ls' := [xA 6 1, xI x1, xI x2, xI x3]) (st' := []) (w' := x_set w 1 8 s1) rfl (fun w1 ew1 => ?_)
  refine x_goN 3 (pc' := if w1 1 8 = 0 then 46 else 60) (ls' := [xA 6 1, xI x1, xI x2, xI x3]) (st' := []) (w' := w1) rfl ?_
  refine x_br (fun c1 => ?_) (fun c1 => ?_)
  · skip
    refine x_goN 3 (pc' := 51) (ls' := [xA 6 1, xI x1, xI x2, xI x3]) (st' := [xI x1, xA 50 33]) (w' := w1) rfl ?_
    refine x_ob (P := vp_in x1 4) (pc' := 52) (ls' := [xA 6 1, xI x1, xI x2, xI x3]) (st' := [xA 3 (32 * 33 + x1.toNatClampNeg + 1)]) (w' := w1) rfl ((h w1 ew1).1 c1).1 ?_
    refine x_goN 1 (pc' := 53) (ls' := [xA 6 1, xI x1, xI x2, xI x3]) (st' := [xI x2, xA 3 (32 * 33 + x1.toNatClampNeg + 1)]) (w' := w1) rfl ?_
    refine x_call (y := m_Sh_read) (as := [xA 3 (32 * 33 + x1.toNatClampNeg + 1), xI x2]) (rst := []) rfl [xA 3 (32 * 33 + x1.toNatClampNeg + 1), xI x2] rfl ?_
    exact ((h w1 ew1).1 c1).2
  · skip
    refine x_goN 1 (pc' := 63) (ls' := [xA 6 1, xI x1, xI x2, xI x3]) (st' := [xJ (-9223372036854775808)]) (w' := w1) rfl ?_
    exact x_ret (P := True) rfl trivial ((h w1 ew1).2 c1)
theorem G_Vp_cell_56 {d : Nat} {x1 : Int32} {x2 : Int32} {x3 : Int32} {s0 : Int32} {w : xWd} {Q : xMV → xWd → Prop} (h : Q (xJ s0.toInt64) w) : xWp (d + 2) m_Vp_cell 56 [xA 6 1, xI x1, xI x2, xI x3] [xI s0] w Q := by
  refine x_goN 2 (pc' := 63) (ls' := [xA 6 1, xI x1, xI x2, xI x3]) (st' := [xJ s0.toInt64]) (w' := w) rfl ?_
  exact x_ret (P := True) rfl trivial h
theorem G_Md_cell_0 {d : Nat} {x1 : Int32} {x2 : Int32} {x3 : Int32} {w : xWd} {Q : xMV → xWd → Prop} (h : (∀ w1 : xWd, w1 = x_set w 2 0 0 → ((p_rg x1 0 3 → ((p_rg x3 0 2 → (vp_in x1 4 ∧ ((w1 67 x1.toNatClampNeg = (-9) → (vp_in x1 4 ∧ ((w1 67 x1.toNatClampNeg = (-9) → (∀ w2 : xWd, w2 = x_set w1 2 0 1 → Q (xJ (-9223372036854775808)) w2)) ∧ (¬ (w1 67 x1.toNatClampNeg = (-9)) → (vp_in x1 4 ∧ ((p_wi x2 0 ((w1 68 x1.toNatClampNeg) - 1) → (vp_in ((60 * x1) + x2) 240 ∧ Q (xJ ((w1 69 ((60 * x1) + x2).toNatClampNeg).toInt64)) w1)) ∧ (¬ (p_wi x2 0 ((w1 68 x1.toNatClampNeg) - 1)) → (∀ w3 : xWd, w3 = x_set w1 2 0 3 → Q (xJ (-9223372036854775808)) w3)))))))) ∧ (¬ (w1 67 x1.toNatClampNeg = (-9)) → (vp_in x1 4 ∧ ((w1 67 x1.toNatClampNeg = x3 → (vp_in x1 4 ∧ ((w1 67 x1.toNatClampNeg = (-9) → (∀ w4 : xWd, w4 = x_set w1 2 0 1 → Q (xJ (-9223372036854775808)) w4)) ∧ (¬ (w1 67 x1.toNatClampNeg = (-9)) → (vp_in x1 4 ∧ ((p_wi x2 0 ((w1 68 x1.toNatClampNeg) - 1) → (vp_in ((60 * x1) + x2) 240 ∧ Q (xJ ((w1 69 ((60 * x1) + x2).toNatClampNeg).toInt64)) w1)) ∧ (¬ (p_wi x2 0 ((w1 68 x1.toNatClampNeg) - 1)) → (∀ w5 : xWd, w5 = x_set w1 2 0 3 → Q (xJ (-9223372036854775808)) w5)))))))) ∧ (¬ (w1 67 x1.toNatClampNeg = x3) → (∀ w6 : xWd, w6 = x_set w1 2 0 2 → Q (xJ (-9223372036854775808)) w6)))))))) ∧ (¬ (p_rg x3 0 2) → Q (xJ (-9223372036854775808)) w1))) ∧ (¬ (p_rg x1 0 3) → Q (xJ (-9223372036854775808)) w1)))) : xWp (d + 2) m_Md_cell 0 [xA 7 2, xI x1, xI x2, xI x3] [] w Q := by
  refine x_goN 2 (pc' := 2) (ls' := [xA 7 2, xI x1, xI x2, xI x3]) (st' := [xI 0, xA 7 2]) (w' := w) rfl ?_
  refine x_goW (pc' := 5) (ls' := [xA 7 2, xI x1, xI x2, xI x3]) (st' := []) (w' := x_set w 2 0 0) rfl (fun w1 ew1 => ?_)
  refine x_goN 1 (pc' := 6) (ls' := [xA 7 2, xI x1, xI x2, xI x3]) (st' := [xI x1]) (w' := w1) rfl ?_
  refine x_call (y := m_Md_isSheet) (as := [xI x1]) (rst := []) rfl [xI x1] rfl ?_
  refine S_Md_isSheet (fun c1 => ?_) (fun c1 => ?_)
  · skip
    refine x_goN 1 (pc' := if (1 : Int32) = (0 : Int32) then 19 else 12) (ls' := [xA 7 2, xI x1, xI x2, xI x3]) (st' := []) (w' := w1) rfl ?_
    refine x_brF (by decide) ?_
    refine x_goN 1 (pc' := 13) (ls' := [xA 7 2, xI x1, xI x2, xI x3]) (st' := [xI x3]) (w' := w1) rfl ?_
    refine x_call (y := m_Md_isSort) (as := [xI x3]) (rst := []) rfl [xI x3] rfl ?_
    refine S_Md_isSort (fun c2 => ?_) (fun c2 => ?_)
    · skip
      refine x_goN 1 (pc' := if (1 : Int32) = (0 : Int32) then 19 else 23) (ls' := [xA 7 2, xI x1, xI x2, xI x3]) (st' := []) (w' := w1) rfl ?_
      refine x_brF (by decide) ?_
      refine x_goN 3 (pc' := 28) (ls' := [xA 7 2, xI x1, xI x2, xI x3]) (st' := [xI x1, xA 104 67]) (w' := w1) rfl ?_
      refine x_ob (P := vp_in x1 4) (pc' := 29) (ls' := [xA 7 2, xI x1, xI x2, xI x3]) (st' := [xI (w1 67 x1.toNatClampNeg)]) (w' := w1) rfl (((h w1 ew1).1 c1).1 c2).1 ?_
      refine x_goN 2 (pc' := if w1 67 x1.toNatClampNeg = (-9) then 50 else 34) (ls' := [xA 7 2, xI x1, xI x2, xI x3]) (st' := []) (w' := w1) rfl ?_
      refine x_br (fun c3 => ?_) (fun c3 => ?_)
      · skip
        refine x_goN 3 (pc' := 55) (ls' := [xA 7 2, xI x1, xI x2, xI x3]) (st' := [xI x1, xA 104 67]) (w' := w1) rfl ?_
        refine x_ob (P := vp_in x1 4) (pc' := 56) (ls' := [xA 7 2, xI x1, xI x2, xI x3]) (st' := [xI (w1 67 x1.toNatClampNeg)]) (w' := w1) rfl ((((h w1 ew1).1 c1).1 c2).2.1 c3).1 ?_
        refine x_goN 2 (pc' := if w1 67 x1.toNatClampNeg = (-9) then 61 else 67) (ls' := [xA 7 2, xI x1, xI x2, xI x3]) (st' := []) (w' := w1) rfl ?_
        refine x_br (fun c4 => ?_) (fun c4 => ?_)
        · skip
          refine x_goN 2 (pc' := 63) (ls' := [xA 7 2, xI x1, xI x2, xI x3]) (st' := [xI 1, xA 7 2]) (w' := w1) rfl ?_
          refine x_call (y := m_Md_lost) (as := [xA 7 2, xI 1]) (rst := []) rfl [xA 7 2, xI 1] rfl ?_
          refine S_Md_lost (fun w2 ew2 => ?_)
          exact x_ret (P := True) rfl trivial ((((((h w1 ew1).1 c1).1 c2).2.1 c3).2.1 c4) w2 ew2)
        · skip
          refine x_goN 5 (pc' := 74) (ls' := [xA 7 2, xI x1, xI x2, xI x3]) (st' := [xI x1, xA 104 68, xI 0, xI x2]) (w' := w1) rfl ?_
          refine x_ob (P := vp_in x1 4) (pc' := 75) (ls' := [xA 7 2, xI x1, xI x2, xI x3]) (st' := [xI (w1 68 x1.toNatClampNeg), xI 0, xI x2]) (w' := w1) rfl (((((h w1 ew1).1 c1).1 c2).2.1 c3).2.2 c4).1 ?_
          refine x_goN 2 (pc' := 77) (ls' := [xA 7 2, xI x1, xI x2, xI x3]) (st' := [xI ((w1 68 x1.toNatClampNeg) - 1), xI 0, xI x2]) (w' := w1) rfl ?_
          refine x_call (y := m_Md_within) (as := [xI x2, xI 0, xI ((w1 68 x1.toNatClampNeg) - 1)]) (rst := []) rfl [xI x2, xI 0, xI ((w1 68 x1.toNatClampNeg) - 1)] rfl ?_
          refine S_Md_within (fun c5 => ?_) (fun c5 => ?_)
          · skip
            refine x_goN 1 (pc' := if (1 : Int32) = (0 : Int32) then 83 else 89) (ls' := [xA 7 2, xI x1, xI x2, xI x3]) (st' := []) (w' := w1) rfl ?_
            refine x_brF (by decide) ?_
            refine x_goN 7 (pc' := 99) (ls' := [xA 7 2, xI x1, xI x2, xI x3]) (st' := [xI ((60 * x1) + x2), xA 340 69]) (w' := w1) rfl ?_
            refine x_ob (P := vp_in ((60 * x1) + x2) 240) (pc' := 100) (ls' := [xA 7 2, xI x1, xI x2, xI x3]) (st' := [xI (w1 69 ((60 * x1) + x2).toNatClampNeg)]) (w' := w1) rfl ((((((h w1 ew1).1 c1).1 c2).2.1 c3).2.2 c4).2.1 c5).1 ?_
            refine x_goN 1 (pc' := 101) (ls' := [xA 7 2, xI x1, xI x2, xI x3]) (st' := [xJ ((w1 69 ((60 * x1) + x2).toNatClampNeg).toInt64)]) (w' := w1) rfl ?_
            exact x_ret (P := True) rfl trivial ((((((h w1 ew1).1 c1).1 c2).2.1 c3).2.2 c4).2.1 c5).2
          · skip
            refine x_goN 1 (pc' := if (0 : Int32) = (0 : Int32) then 83 else 89) (ls' := [xA 7 2, xI x1, xI x2, xI x3]) (st' := []) (w' := w1) rfl ?_
            refine x_brT (by decide) ?_
            refine x_goN 2 (pc' := 85) (ls' := [xA 7 2, xI x1, xI x2, xI x3]) (st' := [xI 3, xA 7 2]) (w' := w1) rfl ?_
            refine x_call (y := m_Md_lost) (as := [xA 7 2, xI 3]) (rst := []) rfl [xA 7 2, xI 3] rfl ?_
            refine S_Md_lost (fun w3 ew3 => ?_)
            exact x_ret (P := True) rfl trivial (((((((h w1 ew1).1 c1).1 c2).2.1 c3).2.2 c4).2.2 c5) w3 ew3)
      · skip
        refine x_goN 3 (pc' := 39) (ls' := [xA 7 2, xI x1, xI x2, xI x3]) (st' := [xI x1, xA 104 67]) (w' := w1) rfl ?_
        refine x_ob (P := vp_in x1 4) (pc' := 40) (ls' := [xA 7 2, xI x1, xI x2, xI x3]) (st' := [xI (w1 67 x1.toNatClampNeg)]) (w' := w1) rfl ((((h w1 ew1).1 c1).1 c2).2.2 c3).1 ?_
        refine x_goN 2 (pc' := if w1 67 x1.toNatClampNeg = x3 then 50 else 44) (ls' := [xA 7 2, xI x1, xI x2, xI x3]) (st' := []) (w' := w1) rfl ?_
        refine x_br (fun c6 => ?_) (fun c6 => ?_)
        · skip
          refine x_goN 3 (pc' := 55) (ls' := [xA 7 2, xI x1, xI x2, xI x3]) (st' := [xI x1, xA 104 67]) (w' := w1) rfl ?_
          refine x_ob (P := vp_in x1 4) (pc' := 56) (ls' := [xA 7 2, xI x1, xI x2, xI x3]) (st' := [xI (w1 67 x1.toNatClampNeg)]) (w' := w1) rfl (((((h w1 ew1).1 c1).1 c2).2.2 c3).2.1 c6).1 ?_
          refine x_goN 2 (pc' := if w1 67 x1.toNatClampNeg = (-9) then 61 else 67) (ls' := [xA 7 2, xI x1, xI x2, xI x3]) (st' := []) (w' := w1) rfl ?_
          refine x_br (fun c7 => ?_) (fun c7 => ?_)
          · skip
            refine x_goN 2 (pc' := 63) (ls' := [xA 7 2, xI x1, xI x2, xI x3]) (st' := [xI 1, xA 7 2]) (w' := w1) rfl ?_
            refine x_call (y := m_Md_lost) (as := [xA 7 2, xI 1]) (rst := []) rfl [xA 7 2, xI 1] rfl ?_
            refine S_Md_lost (fun w4 ew4 => ?_)
            exact x_ret (P := True) rfl trivial (((((((h w1 ew1).1 c1).1 c2).2.2 c3).2.1 c6).2.1 c7) w4 ew4)
          · skip
            refine x_goN 5 (pc' := 74) (ls' := [xA 7 2, xI x1, xI x2, xI x3]) (st' := [xI x1, xA 104 68, xI 0, xI x2]) (w' := w1) rfl ?_
            refine x_ob (P := vp_in x1 4) (pc' := 75) (ls' := [xA 7 2, xI x1, xI x2, xI x3]) (st' := [xI (w1 68 x1.toNatClampNeg), xI 0, xI x2]) (w' := w1) rfl ((((((h w1 ew1).1 c1).1 c2).2.2 c3).2.1 c6).2.2 c7).1 ?_
            refine x_goN 2 (pc' := 77) (ls' := [xA 7 2, xI x1, xI x2, xI x3]) (st' := [xI ((w1 68 x1.toNatClampNeg) - 1), xI 0, xI x2]) (w' := w1) rfl ?_
            refine x_call (y := m_Md_within) (as := [xI x2, xI 0, xI ((w1 68 x1.toNatClampNeg) - 1)]) (rst := []) rfl [xI x2, xI 0, xI ((w1 68 x1.toNatClampNeg) - 1)] rfl ?_
            refine S_Md_within (fun c8 => ?_) (fun c8 => ?_)
            · skip
              refine x_goN 1 (pc' := if (1 : Int32) = (0 : Int32) then 83 else 89) (ls' := [xA 7 2, xI x1, xI x2, xI x3]) (st' := []) (w' := w1) rfl ?_
              refine x_brF (by decide) ?_
              refine x_goN 7 (pc' := 99) (ls' := [xA 7 2, xI x1, xI x2, xI x3]) (st' := [xI ((60 * x1) + x2), xA 340 69]) (w' := w1) rfl ?_
              refine x_ob (P := vp_in ((60 * x1) + x2) 240) (pc' := 100) (ls' := [xA 7 2, xI x1, xI x2, xI x3]) (st' := [xI (w1 69 ((60 * x1) + x2).toNatClampNeg)]) (w' := w1) rfl (((((((h w1 ew1).1 c1).1 c2).2.2 c3).2.1 c6).2.2 c7).2.1 c8).1 ?_
              refine x_goN 1 (pc' := 101) (ls' := [xA 7 2, xI x1, xI x2, xI x3]) (st' := [xJ ((w1 69 ((60 * x1) + x2).toNatClampNeg).toInt64)]) (w' := w1) rfl ?_
              exact x_ret (P := True) rfl trivial (((((((h w1 ew1).1 c1).1 c2).2.2 c3).2.1 c6).2.2 c7).2.1 c8).2
            · skip
              refine x_goN 1 (pc' := if (0 : Int32) = (0 : Int32) then 83 else 89) (ls' := [xA 7 2, xI x1, xI x2, xI x3]) (st' := []) (w' := w1) rfl ?_
              refine x_brT (by decide) ?_
              refine x_goN 2 (pc' := 85) (ls' := [xA 7 2, xI x1, xI x2, xI x3]) (st' := [xI 3, xA 7 2]) (w' := w1) rfl ?_
              refine x_call (y := m_Md_lost) (as := [xA 7 2, xI 3]) (rst := []) rfl [xA 7 2, xI 3] rfl ?_
              refine S_Md_lost (fun w5 ew5 => ?_)
              exact x_ret (P := True) rfl trivial ((((((((h w1 ew1).1 c1).1 c2).2.2 c3).2.1 c6).2.2 c7).2.2 c8) w5 ew5)
        · skip
          refine x_goN 2 (pc' := 46) (ls' := [xA 7 2, xI x1, xI x2, xI x3]) (st' := [xI 2, xA 7 2]) (w' := w1) rfl ?_
          refine x_call (y := m_Md_lost) (as := [xA 7 2, xI 2]) (rst := []) rfl [xA 7 2, xI 2] rfl ?_
          refine S_Md_lost (fun w6 ew6 => ?_)
          exact x_ret (P := True) rfl trivial ((((((h w1 ew1).1 c1).1 c2).2.2 c3).2.2 c6) w6 ew6)
    · skip
      refine x_goN 1 (pc' := if (0 : Int32) = (0 : Int32) then 19 else 23) (ls' := [xA 7 2, xI x1, xI x2, xI x3]) (st' := []) (w' := w1) rfl ?_
      refine x_brT (by decide) ?_
      refine x_goN 1 (pc' := 22) (ls' := [xA 7 2, xI x1, xI x2, xI x3]) (st' := [xJ (-9223372036854775808)]) (w' := w1) rfl ?_
      exact x_ret (P := True) rfl trivial (((h w1 ew1).1 c1).2 c2)
  · skip
    refine x_goN 1 (pc' := if (0 : Int32) = (0 : Int32) then 19 else 12) (ls' := [xA 7 2, xI x1, xI x2, xI x3]) (st' := []) (w' := w1) rfl ?_
    refine x_brT (by decide) ?_
    refine x_goN 1 (pc' := 22) (ls' := [xA 7 2, xI x1, xI x2, xI x3]) (st' := [xJ (-9223372036854775808)]) (w' := w1) rfl ?_
    exact x_ret (P := True) rfl trivial ((h w1 ew1).2 c1)
theorem O_cell (s : xS) (x1 x2 x3 : Int32) : oBJ m_Vp_cell [xA 6 1, xI x1, xI x2, xI x3] m_Md_cell [xA 7 2, xI x1, xI x2, xI x3] s := by
  by_cases hp : p_rg x1 0 3
  · by_cases hl : p_rg x3 0 2
    · obtain ⟨k, hk, rfl⟩ := rg3.mp hp
      have hin : vp_in (nI k) 4 := z_in hk (by decide)
      have h4 := vFa_4 (s_r s k) (s_n s k) x3 x2 1
      by_cases hv : vFa (s_r s k) (s_n s k) x3 x2 1 = 0
      · obtain ⟨hr, rfl, i, rfl, hi⟩ := vFa_0 hv
        refine ⟨((s_c s k i).toInt64), uF s 0, fun w h => ?_, fun w h => ?_⟩
        · have hb := h.1.1 k hk
          refine G_Vp_cell_0 (fun w1 e1 => ?_)
          rw [z_ad hk]
          have g1 := sC_f h e1
          refine ⟨fun _ => ⟨fun _ => ⟨hin, S_Sh_faultOfCells (g1.1.2.1 k hk) hb.1 hb.2 ?_⟩, fun c => absurd hl c⟩, fun c => absurd hp c⟩
          refine G_Vp_cell_36 (fun w2 e2 => ?_)
          have hv' : vFa (s_r (uF s 0) k) (s_n (uF s 0) k) (nI (s_r s k - 1)) (nI i) 1 = 0 := hv
          rw [hv'] at e2
          have g2 := sC_f g1.1 e2
          rw [z_ad hk]
          exact ⟨fun _ => ⟨hin, S_Sh_read (g2.1.2.1 k hk) hr hb.2 hi (G_Vp_cell_56 (cF (s := uF s 0) g2.1 (fC_tr g1.2 g2.2)))⟩, fun c => absurd g2.1.2.2.2.2.2 c⟩
        · have hb := h.1.1 k hk
          refine G_Md_cell_0 (fun w1 e1 => ?_)
          have g1 := sM_f h e1
          obtain ⟨m1, m2, m3⟩ := g1.1.2.1 k hk
          have m2' : w1 67 k = nI (s_r s k - 1) ∧ w1 68 k = nI (s_n s k) := m2 hr
          have m3' : w1 69 (60 * k + i) = s_c s k i := m3 i (by omega)
          have hn9 : ¬ nI (s_r s k - 1) = -9 := fun q => z_n9 (by omega) q.symm
          rw [z_cl' (show k < 2 ^ 31 by omega), m2'.1, m2'.2, z_60, z_cl' (by omega), m3']
          refine ⟨fun _ => ⟨fun _ => ⟨hin, fun c => absurd c hn9, fun _ => ⟨hin, fun _ => ⟨hin, fun c => absurd c hn9, fun _ => ⟨hin, fun _ => ⟨z_in (by omega) (by decide), mF g1.1 g1.2⟩, fun c => absurd ((z_wi (b := 0) (by omega)).mpr ⟨i, rfl, hi⟩) c⟩⟩, fun c => absurd rfl c⟩⟩, fun c => absurd hl c⟩, fun c => absurd hp c⟩
      · refine ⟨(-9223372036854775808), uF s (nI (vFa (s_r s k) (s_n s k) x3 x2 1)), fun w h => ?_, fun w h => ?_⟩
        · have hb := h.1.1 k hk
          refine G_Vp_cell_0 (fun w1 e1 => ?_)
          rw [z_ad hk]
          have g1 := sC_f h e1
          refine ⟨fun _ => ⟨fun _ => ⟨hin, S_Sh_faultOfCells (g1.1.2.1 k hk) hb.1 hb.2 ?_⟩, fun c => absurd hl c⟩, fun c => absurd hp c⟩
          refine G_Vp_cell_36 (fun w2 e2 => ?_)
          have g2 := sC_f g1.1 e2
          refine ⟨fun c => absurd ?_ hv, fun _ => cF g2.1 (fC_tr g1.2 g2.2)⟩
          rw [g2.1.2.2.2.2.2] at c
          exact (z_eq0 (by omega)).mp c
        · have hb := h.1.1 k hk
          refine G_Md_cell_0 (fun w1 e1 => ?_)
          have g1 := sM_f h e1
          obtain ⟨m1, m2, m3⟩ := g1.1.2.1 k hk
          refine ⟨fun _ => ⟨fun _ => ⟨hin, ?_⟩, fun c => absurd hl c⟩, fun c => absurd hp c⟩
          rw [z_cl' (show k < 2 ^ 31 by omega)]
          by_cases hr : s_r s k = 0
          · have m1' : w1 67 k = -9 := m1 hr
            have ev : vFa (s_r s k) (s_n s k) x3 x2 1 = 1 := by unfold vFa; rw [if_pos hr]
            rw [m1', ev]
            refine ⟨fun _ => ⟨hin, fun _ w2 e2 => ?_, fun c => absurd rfl c⟩, fun c => absurd rfl c⟩
            have g2 := sM_f g1.1 e2
            exact mF g2.1 (fM_tr g1.2 g2.2)
          · have m2' : w1 67 k = nI (s_r s k - 1) ∧ w1 68 k = nI (s_n s k) := m2 (by show 0 < s_r s k; omega)
            have hn9 : ¬ nI (s_r s k - 1) = -9 := fun q => z_n9 (by omega) q.symm
            rw [m2'.1, m2'.2]
            refine ⟨fun c => absurd c hn9, fun _ => ⟨hin, fun c2 => ⟨hin, fun c => absurd c hn9, fun _ => ⟨hin, fun c3 => absurd ?_ hv, fun c3 w2 e2 => ?_⟩⟩, fun c2 w2 e2 => ?_⟩⟩
            · obtain ⟨i, rfl, hi⟩ := (z_wi (b := 0) (by omega)).mp c3
              unfold vFa
              rw [if_neg hr, if_pos c2.symm, e_l1, if_neg (by decide), if_pos (by rw [nI_toInt (by omega)]; omega)]
            · have ev : vFa (s_r s k) (s_n s k) x3 x2 1 = 3 := by
                unfold vFa
                rw [if_neg hr, if_pos c2.symm, e_l1, if_neg (by decide), if_neg]
                rintro ⟨q1, q2⟩
                obtain ⟨i, a, b, -⟩ := z_of q1
                exact c3 ((z_wi (b := 0) (by omega)).mpr ⟨i, a, by omega⟩)
              rw [ev]
              have g2 := sM_f g1.1 e2
              exact mF g2.1 (fM_tr g1.2 g2.2)
            · have ev : vFa (s_r s k) (s_n s k) x3 x2 1 = 2 := by
                unfold vFa
                rw [if_neg hr, if_neg (fun q => c2 q.symm)]
              rw [ev]
              have g2 := sM_f g1.1 e2
              exact mF g2.1 (fM_tr g1.2 g2.2)
    · exact ⟨(-9223372036854775808), uF s 0, fun w h => G_Vp_cell_0 (fun w1 e1 => ⟨fun _ => ⟨fun c => absurd c hl, fun _ => cF (sC_f h e1).1 (sC_f h e1).2⟩, fun c => absurd hp c⟩), fun w h => G_Md_cell_0 (fun w1 e1 => ⟨fun _ => ⟨fun c => absurd c hl, fun _ => mF (sM_f h e1).1 (sM_f h e1).2⟩, fun c => absurd hp c⟩)⟩
  · exact ⟨(-9223372036854775808), uF s 0, fun w h => G_Vp_cell_0 (fun w1 e1 => ⟨fun c => absurd c hp, fun _ => cF (sC_f h e1).1 (sC_f h e1).2⟩), fun w h => G_Md_cell_0 (fun w1 e1 => ⟨fun c => absurd c hp, fun _ => mF (sM_f h e1).1 (sM_f h e1).2⟩)⟩

