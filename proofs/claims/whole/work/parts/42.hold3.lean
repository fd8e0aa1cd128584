/-! HOLD: the model -/
def hM (w : xWd) (l : Nat) (H : xH) : Prop := w 83 l = nI H.1 ∧ w 2 19 = nI H.2.1 ∧ w 2 20 = nI H.2.2.1 ∧ w 2 21 = nI H.2.2.2
def fH (l : Nat) (w w' : xWd) : Prop := (∀ a, a ≠ 2 → a ≠ 83 → w' a = w a) ∧ (∀ j, (j < 19 ∨ 21 < j) → w' 2 j = w 2 j) ∧ ∀ j, j ≠ l → w' 83 j = w 83 j
theorem fH_rf (l : Nat) (w : xWd) : fH l w w := ⟨fun _ _ _ => rfl, fun _ _ => rfl, fun _ _ => rfl⟩
theorem fH_tr {l : Nat} {w w1 w2 : xWd} (h : fH l w w1) (h2 : fH l w1 w2) : fH l w w2 := ⟨fun a a1 a2 => (h2.1 a a1 a2).trans (h.1 a a1 a2), fun j hj => (h2.2.1 j hj).trans (h.2.1 j hj), fun j hj => (h2.2.2 j hj).trans (h.2.2 j hj)⟩
theorem fH_S {l : Nat} {w w' : xWd} {T : xT} (hS : tS w T) (h : fH l w w') : tS w' T := tS_fr hS (h.2.1 5 (by omega)) (h.1 _ (by decide) (by decide)) (h.1 _ (by decide) (by decide)) (h.1 _ (by decide) (by decide)) (h.1 _ (by decide) (by decide))
theorem fH_83 {l : Nat} {w w1 : xWd} {v : Int32} (e : w1 = x_set w 83 l v) : fH l w w1 := ⟨fun a a1 a2 => by rw [e, x_set_o a2], fun j _ => by rw [e, x_set_o (by decide)], fun j hj => by rw [e, x_set_s, upd_o hj]⟩
theorem fH_2 {l f : Nat} {w w1 : xWd} {v : Int32} (hf : 19 ≤ f ∧ f ≤ 21) (e : w1 = x_set w 2 f v) : fH l w w1 := ⟨fun a a1 a2 => by rw [e, x_set_o a1], fun j hj => by rw [e, x_set_s, upd_o (by omega)], fun j _ => by rw [e, x_set_o (by decide)]⟩
theorem G_Md_drops_0 {d : Nat} {x1 : Int32} {x2 : Int32} {w : xWd} {Q : xMV → xWd → Prop} (h : xWp (d + 2) m_Md_drops 10 [xA 7 2, xI x1, xI x2, xI (-9), xI (-9), xI 0, xU] [] w Q) : xWp (d + 2) m_Md_drops 0 [xA 7 2, xI x1, xI x2, xU, xU, xU, xU] [] w Q := by
  refine x_goN 6 (pc' := 10) (ls' := [xA 7 2, xI x1, xI x2, xI (-9), xI (-9), xI 0, xU]) (st' := []) (w' := w) rfl ?_
  exact h
theorem G_Md_drops_10 {d : Nat} {x1 : Int32} {x2 : Int32} {x3 : Int32} {x4 : Int32} {x5 : Int32} {w : xWd} {Q : xMV → xWd → Prop} (h : ((w 2 5 ≤ x5 → (vp_in x1 8 ∧ (vp_in x1 8 ∧ ∀ w1 : xWd, w1 = x_set w 83 x1.toNatClampNeg ((w 83 x1.toNatClampNeg) &&& (((1 : Int32) <<< (x3 &&& 31)) ^^^ (-1))) → (∀ w2 : xWd, w2 = x_set w1 2 21 ((w1 2 21) + 1) → ((x4 ≤ 8 → (∀ w3 : xWd, w3 = x_set w2 2 19 ((w2 2 19) ||| ((1 : Int32) <<< (x3 &&& 31))) → Q xU w3)) ∧ (¬ (x4 ≤ 8) → (∀ w4 : xWd, w4 = x_set w2 2 19 ((w2 2 19) ||| 0) → Q xU w4))))))) ∧ (¬ (w 2 5 ≤ x5) → ((p_in x2 x5 → xWp (d + 1) m_Md_laterUse 0 [xA 7 2, xI x1, xI x5, xU, xU, xU, xU] [] w (fun a w' => xWp (d + 2) m_Md_drops 35 [xA 7 2, xI x1, xI x2, xI x3, xI x4, xI x5, xU] (x_pu a []) w' Q)) ∧ (¬ (p_in x2 x5) → xWp (d + 2) m_Md_drops 10 [xA 7 2, xI x1, xI x2, xI x3, xI x4, xI (x5 + 1), xU] [] w Q))))) : xWp (d + 2) m_Md_drops 10 [xA 7 2, xI x1, xI x2, xI x3, xI x4, xI x5, xU] [] w Q := by
  refine x_goN 4 (pc' := if w 2 5 ≤ x5 then 90 else 19) (ls' := [xA 7 2, xI x1, xI x2, xI x3, xI x4, xI x5, xU]) (st' := []) (w' := w) rfl ?_
  refine x_br (fun c1 => ?_) (fun c1 => ?_)
  · skip
    refine x_goN 4 (pc' := 96) (ls' := [xA 7 2, xI x1, xI x2, xI x3, xI x4, xI x5, xU]) (st' := [xI x1, xA 108 83, xI x1, xA 108 83]) (w' := w) rfl ?_
    refine x_ob (P := vp_in x1 8) (pc' := 97) (ls' := [xA 7 2, xI x1, xI x2, xI x3, xI x4, xI x5, xU]) (st' := [xI (w 83 x1.toNatClampNeg), xI x1, xA 108 83]) (w' := w) rfl (h.1 c1).1 ?_
    refine x_goN 6 (pc' := 103) (ls' := [xA 7 2, xI x1, xI x2, xI x3, xI x4, xI x5, xU]) (st' := [xI ((w 83 x1.toNatClampNeg) &&& (((1 : Int32) <<< (x3 &&& 31)) ^^^ (-1))), xI x1, xA 108 83]) (w' := w) rfl ?_
    refine x_obW (P := vp_in x1 8) (pc' := 104) (ls' := [xA 7 2, xI x1, xI x2, xI x3, xI x4, xI x5, xU]) (st' := []) (w' := x_set w 83 x1.toNatClampNeg ((w 83 x1.toNatClampNeg) &&& (((1 : Int32) <<< (x3 &&& 31)) ^^^ (-1)))) rfl (h.1 c1).2.1 (fun w1 ew1 => ?_)
    refine x_goN 5 (pc' := 111) (ls' := [xA 7 2, xI x1, xI x2, xI x3, xI x4, xI x5, xU]) (st' := [xI ((w1 2 21) + 1), xA 7 2]) (w' := w1) rfl ?_
    refine x_goW (pc' := 114) (ls' := [xA 7 2, xI x1, xI x2, xI x3, xI x4, xI x5, xU]) (st' := []) (w' := x_set w1 2 21 ((w1 2 21) + 1)) rfl (fun w2 ew2 => ?_)
    refine x_goN 6 (pc' := if x4 ≤ 8 then 130 else 126) (ls' := [xA 7 2, xI x1, xI x2, xI x3, xI x4, xI x5, xU]) (st' := [xI (w2 2 19), xA 7 2]) (w' := w2) rfl ?_
    refine x_br (fun c2 => ?_) (fun c2 => ?_)
    · skip
      refine x_goN 4 (pc' := 134) (ls' := [xA 7 2, xI x1, xI x2, xI x3, xI x4, xI x5, xU]) (st' := [xI ((w2 2 19) ||| ((1 : Int32) <<< (x3 &&& 31))), xA 7 2]) (w' := w2) rfl ?_
      refine x_goW (pc' := 137) (ls' := [xA 7 2, xI x1, xI x2, xI x3, xI x4, xI x5, xU]) (st' := []) (w' := x_set w2 2 19 ((w2 2 19) ||| ((1 : Int32) <<< (x3 &&& 31)))) rfl (fun w3 ew3 => ?_)
      exact x_ret (P := True) rfl trivial (((((h.1 c1).2.2 w1 ew1) w2 ew2).1 c2) w3 ew3)
    · skip
      refine x_goN 3 (pc' := 134) (ls' := [xA 7 2, xI x1, xI x2, xI x3, xI x4, xI x5, xU]) (st' := [xI ((w2 2 19) ||| 0), xA 7 2]) (w' := w2) rfl ?_
      refine x_goW (pc' := 137) (ls' := [xA 7 2, xI x1, xI x2, xI x3, xI x4, xI x5, xU]) (st' := []) (w' := x_set w2 2 19 ((w2 2 19) ||| 0)) rfl (fun w4 ew4 => ?_)
      exact x_ret (P := True) rfl trivial (((((h.1 c1).2.2 w1 ew1) w2 ew2).2 c2) w4 ew4)
  · skip
    refine x_goN 2 (pc' := 22) (ls' := [xA 7 2, xI x1, xI x2, xI x3, xI x4, xI x5, xU]) (st' := [xI x5, xI x2]) (w' := w) rfl ?_
    refine x_call (y := m_Md_isOf) (as := [xI x2, xI x5]) (rst := []) rfl [xI x2, xI x5] rfl ?_
    refine S_Md_isOf (fun c3 => ?_) (fun c3 => ?_)
    · skip
      refine x_goN 1 (pc' := if (1 : Int32) = (0 : Int32) then 84 else 28) (ls' := [xA 7 2, xI x1, xI x2, xI x3, xI x4, xI x5, xU]) (st' := []) (w' := w) rfl ?_
      refine x_brF (by decide) ?_
      refine x_goN 3 (pc' := 32) (ls' := [xA 7 2, xI x1, xI x2, xI x3, xI x4, xI x5, xU]) (st' := [xI x5, xI x1, xA 7 2]) (w' := w) rfl ?_
      refine x_call (y := m_Md_laterUse) (as := [xA 7 2, xI x1, xI x5]) (rst := []) rfl [xA 7 2, xI x1, xI x5, xU, xU, xU, xU] rfl ?_
      exact ((h.2 c1).1 c3)
    · skip
      refine x_goN 1 (pc' := if (0 : Int32) = (0 : Int32) then 84 else 28) (ls' := [xA 7 2, xI x1, xI x2, xI x3, xI x4, xI x5, xU]) (st' := []) (w' := w) rfl ?_
      refine x_brT (by decide) ?_
      refine x_goN 2 (pc' := 10) (ls' := [xA 7 2, xI x1, xI x2, xI x3, xI x4, xI (x5 + 1), xU]) (st' := []) (w' := w) rfl ?_
      exact ((h.2 c1).2 c3)
theorem G_Md_drops_35 {d : Nat} {x1 : Int32} {x2 : Int32} {x3 : Int32} {x4 : Int32} {x5 : Int32} {s0 : Int32} {w : xWd} {Q : xMV → xWd → Prop} (h : ((s0 = (-9) → xWp (d + 2) m_Md_drops 52 [xA 7 2, xI x1, xI x2, xI x3, xI x4, xI x5, xU] [xI 9] w Q) ∧ (¬ (s0 = (-9)) → xWp (d + 1) m_Md_laterUse 0 [xA 7 2, xI x1, xI x5, xU, xU, xU, xU] [] w (fun a w' => xWp (d + 2) m_Md_drops 52 [xA 7 2, xI x1, xI x2, xI x3, xI x4, xI x5, xU] (x_pu a []) w' Q)))) : xWp (d + 2) m_Md_drops 35 [xA 7 2, xI x1, xI x2, xI x3, xI x4, xI x5, xU] [xI s0] w Q := by
  refine x_goN 2 (pc' := if s0 = (-9) then 40 else 45) (ls' := [xA 7 2, xI x1, xI x2, xI x3, xI x4, xI x5, xU]) (st' := []) (w' := w) rfl ?_
  refine x_br (fun c1 => ?_) (fun c1 => ?_)
  · skip
    refine x_goN 2 (pc' := 52) (ls' := [xA 7 2, xI x1, xI x2, xI x3, xI x4, xI x5, xU]) (st' := [xI 9]) (w' := w) rfl ?_
    exact (h.1 c1)
  · skip
    refine x_goN 3 (pc' := 49) (ls' := [xA 7 2, xI x1, xI x2, xI x3, xI x4, xI x5, xU]) (st' := [xI x5, xI x1, xA 7 2]) (w' := w) rfl ?_
    refine x_call (y := m_Md_laterUse) (as := [xA 7 2, xI x1, xI x5]) (rst := []) rfl [xA 7 2, xI x1, xI x5, xU, xU, xU, xU] rfl ?_
    exact (h.2 c1)
theorem G_Md_drops_52 {d : Nat} {x1 : Int32} {x2 : Int32} {x3 : Int32} {x4 : Int32} {x5 : Int32} {s0 : Int32} {w : xWd} {Q : xMV → xWd → Prop} (h : ((s0 < x4 → ((s0 < x4 → xWp (d + 2) m_Md_drops 10 [xA 7 2, xI x1, xI x2, xI x3, xI x4, xI (x5 + 1), xU] [] w Q) ∧ (¬ (s0 < x4) → xWp (d + 2) m_Md_drops 10 [xA 7 2, xI x1, xI x2, xI x3, xI s0, xI (x5 + 1), xU] [] w Q))) ∧ (¬ (s0 < x4) → ((s0 < x4 → xWp (d + 2) m_Md_drops 10 [xA 7 2, xI x1, xI x2, xI x5, xI x4, xI (x5 + 1), xU] [] w Q) ∧ (¬ (s0 < x4) → xWp (d + 2) m_Md_drops 10 [xA 7 2, xI x1, xI x2, xI x5, xI s0, xI (x5 + 1), xU] [] w Q))))) : xWp (d + 2) m_Md_drops 52 [xA 7 2, xI x1, xI x2, xI x3, xI x4, xI x5, xU] [xI s0] w Q := by
  refine x_goN 4 (pc' := if s0 < x4 then 66 else 61) (ls' := [xA 7 2, xI x1, xI x2, xI x3, xI x4, xI x5, xI s0]) (st' := []) (w' := w) rfl ?_
  refine x_br (fun c1 => ?_) (fun c1 => ?_)
  · skip
    refine x_goN 5 (pc' := if s0 < x4 then 80 else 75) (ls' := [xA 7 2, xI x1, xI x2, xI x3, xI x4, xI x5, xI s0]) (st' := []) (w' := w) rfl ?_
    refine x_br (fun c2 => ?_) (fun c2 => ?_)
    · skip
      refine x_goN 4 (pc' := 10) (ls' := [xA 7 2, xI x1, xI x2, xI x3, xI x4, xI (x5 + 1), xI s0]) (st' := []) (w' := w) rfl ?_
      exact x_weak (((h.1 c1).1 c2)) ⟨Or.inl rfl, Or.inl rfl, Or.inl rfl, Or.inl rfl, Or.inl rfl, Or.inl rfl, Or.inr ⟨rfl, rfl⟩, trivial⟩
    · skip
      refine x_goN 5 (pc' := 10) (ls' := [xA 7 2, xI x1, xI x2, xI x3, xI s0, xI (x5 + 1), xI s0]) (st' := []) (w' := w) rfl ?_
      exact x_weak (((h.1 c1).2 c2)) ⟨Or.inl rfl, Or.inl rfl, Or.inl rfl, Or.inl rfl, Or.inl rfl, Or.inl rfl, Or.inr ⟨rfl, rfl⟩, trivial⟩
  · skip
    refine x_goN 6 (pc' := if s0 < x4 then 80 else 75) (ls' := [xA 7 2, xI x1, xI x2, xI x5, xI x4, xI x5, xI s0]) (st' := []) (w' := w) rfl ?_
    refine x_br (fun c3 => ?_) (fun c3 => ?_)
    · skip
      refine x_goN 4 (pc' := 10) (ls' := [xA 7 2, xI x1, xI x2, xI x5, xI x4, xI (x5 + 1), xI s0]) (st' := []) (w' := w) rfl ?_
      exact x_weak (((h.2 c1).1 c3)) ⟨Or.inl rfl, Or.inl rfl, Or.inl rfl, Or.inl rfl, Or.inl rfl, Or.inl rfl, Or.inr ⟨rfl, rfl⟩, trivial⟩
    · skip
      refine x_goN 5 (pc' := 10) (ls' := [xA 7 2, xI x1, xI x2, xI x5, xI s0, xI (x5 + 1), xI s0]) (st' := []) (w' := w) rfl ?_
      exact x_weak (((h.2 c1).2 c3)) ⟨Or.inl rfl, Or.inl rfl, Or.inl rfl, Or.inl rfl, Or.inl rfl, Or.inl rfl, Or.inr ⟨rfl, rfl⟩, trivial⟩
theorem L_Md_drops {d l c : Nat} {T : xT} {H : xH} {w : xWd} {Q : xMV → xWd → Prop} (hS : tS w T) (hl : l < tn T) (hc : c < 256) (hH : hM w l H) (hm : H.1 < 256) (hne : (h_pk T l c (tn T)).2 ≠ 0) (h : ∀ w', fH l w w' → hM w' l (h_dr T l c H) → Q xU w') : ∀ m v : Nat, v + m = tn T → xWp (d + 2) m_Md_drops 10 [xA 7 2, xI (nI l), xI (nI c), xI (dI (h_pk T l c v)), xI (lM (h_pk T l c v).2), xI (nI v), xU] [] w Q := by
  have h8 := tS_n8 hS
  intro m
  induction m with
  | zero =>
    intro v hv
    have e : v = tn T := by omega
    subst e
    obtain ⟨p1, p2, -⟩ := h_pk_ok hS.2.1 (l := l) (c := c) (tn T)
    have hb := (p2 hne).1
    have hin : vp_in (nI l) 8 := z_in (by omega) (by decide)
    obtain ⟨a1, a2, a3, a4⟩ := hH
    rw [h_dr_n hne] at h
    refine G_Md_drops_10 ⟨fun _ => ⟨hin, hin, fun w1 e1 w2 e2 => ?_⟩, fun c => absurd (tS_end hS) c⟩
    rw [z_cl' (by omega), a1, dI_n hne, z_shl _ (by omega), z_clr _ hm _ (by omega)] at e1
    have k1 : w1 2 21 = nI H.2.2.2 := by rw [e1, x_set_o (by decide)]; exact a4
    rw [k1, nI_1] at e2
    have k2 : w2 2 19 = nI H.2.1 := by rw [e2, x_set_s, upd_o (by decide), e1, x_set_o (by decide)]; exact a2
    have f2 : fH l w w2 := fH_tr (fH_83 e1) (fH_2 (by decide) e2)
    have b1 : w2 83 l = nI (z_cl H.1 (h_pk T l c (tn T)).1) := by rw [e2, x_set_o (by decide), e1, x_set_s, upd_s]
    have b3 : w2 2 20 = nI H.2.2.1 := by rw [e2, x_set_s, upd_o (by decide), e1, x_set_o (by decide)]; exact a3
    have b4 : w2 2 21 = nI (H.2.2.2 + 1) := by rw [e2, x_set_s, upd_s]
    rw [lM_8 _ (by omega) hne, dI_n hne, z_shl _ (by omega), k2, z_or0, fa_or]
    refine ⟨fun q w3 e3 => h w3 (fH_tr f2 (fH_2 (by decide) e3)) ⟨?_, ?_, ?_, ?_⟩, fun q w3 e3 => h w3 (fH_tr f2 (fH_2 (by decide) e3)) ⟨?_, ?_, ?_, ?_⟩⟩
    · rw [e3, x_set_o (by decide)]; exact b1
    · rw [if_neg q, e3, x_set_s, upd_s]
    · rw [e3, x_set_s, upd_o (by decide)]; exact b3
    · rw [e3, x_set_s, upd_o (by decide)]; exact b4
    · rw [e3, x_set_o (by decide)]; exact b1
    · rw [if_pos (Classical.byContradiction q), e3, x_set_s, upd_s]
    · rw [e3, x_set_s, upd_o (by decide)]; exact b3
    · rw [e3, x_set_s, upd_o (by decide)]; exact b4
  | succ m ih =>
    intro v hv
    have hlt : v < tn T := by omega
    obtain ⟨p1, p2, -⟩ := h_pk_ok hS.2.1 (l := l) (c := c) v
    have ih' := ih (v + 1) (by omega)
    rw [h_pk_s] at ih'
    refine G_Md_drops_10 ⟨fun c => absurd c (tS_ge hS hlt), fun _ => ⟨fun q => ?_, fun q => ?_⟩⟩
    · rw [if_pos ((z_bit' hc (by omega)).mp q)] at ih'
      have hle := tL_le hS.2.1 (l := l) (v := v)
      have fin : ∀ r, r < 10 → 0 < r → h_rk T l v = r → xWp (d + 2) m_Md_drops 52 [xA 7 2, xI (nI l), xI (nI c), xI (dI (h_pk T l c v)), xI (lM (h_pk T l c v).2), xI (nI v), xU] [xI (nI r)] w Q := by
        intro r hr hr0 er
        rw [er] at ih'
        refine G_Md_drops_52 ?_
        rw [nI_1, lM_lt r hr _ (by omega)]
        refine ⟨fun q1 => ⟨fun _ => ?_, fun q2 => absurd q1 q2⟩, fun q1 => ⟨fun q2 => absurd q2 q1, fun _ => ?_⟩⟩
        · rw [if_neg (by omega)] at ih'; exact ih'
        · rw [if_pos (by omega), dI_n (p := (v, r)) (show r ≠ 0 by omega), lM_n (show (v, r).2 ≠ 0 by show r ≠ 0; omega)] at ih'
          exact ih'
      refine S_Md_laterUse hS (by omega) hl ?_
      refine G_Md_drops_35 ⟨fun q9 => ?_, fun q9 => S_Md_laterUse hS (by omega) hl ?_⟩
      · exact fin 9 (by decide) (by decide) (h_rk0 ((luI_9 (by omega)).mp q9))
      · have e0 : tL T l v ≠ 0 := fun q => q9 ((luI_9 (by omega)).mpr q)
        rw [luI_p e0]
        exact fin (tL T l v) (by omega) (by omega) (h_rkn e0)
    · rw [if_neg (fun r => q ((z_bit' hc (by omega)).mpr r))] at ih'
      rw [nI_1]; exact ih'
theorem S_Md_drops {d l c : Nat} {T : xT} {H : xH} {w : xWd} {Q : xMV → xWd → Prop} (hS : tS w T) (hl : l < tn T) (hc : c < 256) (hH : hM w l H) (hm : H.1 < 256) (hne : (h_pk T l c (tn T)).2 ≠ 0) (h : ∀ w', fH l w w' → hM w' l (h_dr T l c H) → Q xU w') : xWp (d + 2) m_Md_drops 0 [xA 7 2, xI (nI l), xI (nI c), xU, xU, xU, xU] [] w Q :=
  G_Md_drops_0 (L_Md_drops hS hl hc hH hm hne h (tn T) 0 (Nat.zero_add _))
/-- what is needed below alone stays: found out value by value -/
def z_fl (T : xT) (l M v : Nat) : Nat := z_mk 8 (fun j => M.testBit j && (decide (v ≤ j) || ub T l j))
theorem z_fl_lt (T : xT) (l M v : Nat) : z_fl T l M v < 256 := z_mk_lt8 (Nat.le_refl _) _
theorem z_fl_tb {T : xT} {l M v j : Nat} (hj : j < 8) : (z_fl T l M v).testBit j = (M.testBit j && (decide (v ≤ j) || ub T l j)) := by
  unfold z_fl; rw [z_mk_tb, decide_eq_true hj, Bool.true_and]
theorem z_fl_0 {T : xT} {l M : Nat} (hM : M < 256) : z_fl T l M 0 = M := by
  apply z_ext (z_fl_lt _ _ _ _) hM
  intro j hj
  rw [z_fl_tb hj, decide_eq_true (Nat.zero_le _), Bool.true_or, Bool.and_true]
theorem z_fl_n {T : xT} {l M : Nat} (hM : M < 256) (hn : ∀ j, M.testBit j = true → j < tn T) : z_fl T l M (tn T) = M &&& mUb T l := by
  apply z_ext (z_fl_lt _ _ _ _) (Nat.lt_of_le_of_lt Nat.and_le_left hM)
  intro j hj
  rw [z_fl_tb hj, Nat.testBit_and]
  unfold mUb
  rw [z_mk_tb, decide_eq_true hj, Bool.true_and]
  cases hb : M.testBit j with
  | false => rfl
  | true =>
    have := hn j hb
    rw [decide_eq_false (show ¬ tn T ≤ j by omega), Bool.false_or]
theorem z_fl_y {T : xT} {l M v : Nat} (h : ub T l v = true) : z_fl T l M v = z_fl T l M (v + 1) := by
  apply z_ext (z_fl_lt _ _ _ _) (z_fl_lt _ _ _ _)
  intro j hj
  rw [z_fl_tb hj, z_fl_tb hj]
  by_cases e : j = v
  · rw [e, h, Bool.or_true, Bool.or_true]
  · rw [show decide (v ≤ j) = decide (v + 1 ≤ j) from decide_eq_decide.mpr (by omega)]
theorem z_fl_c {T : xT} {l M v : Nat} (hv : v < 8) (h : ub T l v = false) : z_cl (z_fl T l M v) v = z_fl T l M (v + 1) := by
  apply z_ext (z_cl_lt _ (z_fl_lt _ _ _ _) v hv) (z_fl_lt _ _ _ _)
  intro j hj
  rw [z_cl_tb _ (z_fl_lt _ _ _ _) v hv j hj, z_fl_tb hj, z_fl_tb hj]
  by_cases e : j = v
  · subst e
    rw [h, decide_eq_false (show ¬ j + 1 ≤ j by omega), decide_eq_false (show ¬ j ≠ j by omega)]
    rw [Bool.and_false]; cases M.testBit j <;> rfl
  · rw [decide_eq_true e, Bool.and_true, show decide (v ≤ j) = decide (v + 1 ≤ j) from decide_eq_decide.mpr (by omega)]
theorem G_Md_holds_0 {d : Nat} {x1 : Int32} {x2 : Int32} {w : xWd} {Q : xMV → xWd → Prop} (h : (vp_in x1 8 ∧ ((w 72 x1.toNatClampNeg = 8 → (vp_in x1 8 ∧ ∀ w1 : xWd, w1 = x_set w 83 x1.toNatClampNeg 0 → xWp (d + 3) m_Md_holds 34 [xA 7 2, xI x1, xI x2, xI 0, xU] [] w1 Q)) ∧ (¬ (w 72 x1.toNatClampNeg = 8) → (vp_in x1 8 ∧ (vp_in (w 72 x1.toNatClampNeg) 8 ∧ (vp_in x1 8 ∧ ∀ w2 : xWd, w2 = x_set w 83 x1.toNatClampNeg (w 83 (w 72 x1.toNatClampNeg).toNatClampNeg) → xWp (d + 3) m_Md_holds 34 [xA 7 2, xI x1, xI x2, xI 0, xU] [] w2 Q))))))) : xWp (d + 3) m_Md_holds 0 [xA 7 2, xI x1, xI x2, xU, xU] [] w Q := by
  refine x_goN 6 (pc' := 10) (ls' := [xA 7 2, xI x1, xI x2, xU, xU]) (st' := [xI x1, xA 108 72, xI x1, xA 108 83]) (w' := w) rfl ?_
  refine x_ob (P := vp_in x1 8) (pc' := 11) (ls' := [xA 7 2, xI x1, xI x2, xU, xU]) (st' := [xI (w 72 x1.toNatClampNeg), xI x1, xA 108 83]) (w' := w) rfl h.1 ?_
  refine x_goN 2 (pc' := if w 72 x1.toNatClampNeg = 8 then 16 else 20) (ls' := [xA 7 2, xI x1, xI x2, xU, xU]) (st' := [xI x1, xA 108 83]) (w' := w) rfl ?_
  refine x_br (fun c1 => ?_) (fun c1 => ?_)
  · skip
    refine x_goN 2 (pc' := 31) (ls' := [xA 7 2, xI x1, xI x2, xU, xU]) (st' := [xI 0, xI x1, xA 108 83]) (w' := w) rfl ?_
    refine x_obW (P := vp_in x1 8) (pc' := 32) (ls' := [xA 7 2, xI x1, xI x2, xU, xU]) (st' := []) (w' := x_set w 83 x1.toNatClampNeg 0) rfl (h.2.1 c1).1 (fun w1 ew1 => ?_)
    refine x_goN 2 (pc' := 34) (ls' := [xA 7 2, xI x1, xI x2, xI 0, xU]) (st' := []) (w' := w1) rfl ?_
    exact ((h.2.1 c1).2 w1 ew1)
  · skip
    refine x_goN 5 (pc' := 29) (ls' := [xA 7 2, xI x1, xI x2, xU, xU]) (st' := [xI x1, xA 108 72, xA 108 83, xI x1, xA 108 83]) (w' := w) rfl ?_
    refine x_ob (P := vp_in x1 8) (pc' := 30) (ls' := [xA 7 2, xI x1, xI x2, xU, xU]) (st' := [xI (w 72 x1.toNatClampNeg), xA 108 83, xI x1, xA 108 83]) (w' := w) rfl (h.2.2 c1).1 ?_
    refine x_ob (P := vp_in (w 72 x1.toNatClampNeg) 8) (pc' := 31) (ls' := [xA 7 2, xI x1, xI x2, xU, xU]) (st' := [xI (w 83 (w 72 x1.toNatClampNeg).toNatClampNeg), xI x1, xA 108 83]) (w' := w) rfl (h.2.2 c1).2.1 ?_
    refine x_obW (P := vp_in x1 8) (pc' := 32) (ls' := [xA 7 2, xI x1, xI x2, xU, xU]) (st' := []) (w' := x_set w 83 x1.toNatClampNeg (w 83 (w 72 x1.toNatClampNeg).toNatClampNeg)) rfl (h.2.2 c1).2.2.1 (fun w2 ew2 => ?_)
    refine x_goN 2 (pc' := 34) (ls' := [xA 7 2, xI x1, xI x2, xI 0, xU]) (st' := []) (w' := w2) rfl ?_
    exact ((h.2.2 c1).2.2.2 w2 ew2)
theorem G_Md_holds_34 {d : Nat} {x1 : Int32} {x2 : Int32} {x3 : Int32} {w : xWd} {Q : xMV → xWd → Prop} (h : (vp_in x1 8 ∧ ((w 73 x1.toNatClampNeg ≤ x3 → xWp (d + 3) m_Md_holds 133 [xA 7 2, xI x1, xI x2, xI 0, xU] [] w Q) ∧ (¬ (w 73 x1.toNatClampNeg ≤ x3) → (vp_in ((2 * x1) + x3) 16 ∧ (vp_in x1 8 ∧ ((p_in (w 83 x1.toNatClampNeg) (w 74 ((2 * x1) + x3).toNatClampNeg) → xWp (d + 3) m_Md_holds 34 [xA 7 2, xI x1, xI x2, xI (x3 + 1), xU] [] w Q) ∧ (¬ (p_in (w 83 x1.toNatClampNeg) (w 74 ((2 * x1) + x3).toNatClampNeg)) → (vp_in x1 8 ∧ xWp (d + 2) m_Md_size 0 [xI (w 83 x1.toNatClampNeg), xU, xU] [] w (fun a w' => xWp (d + 3) m_Md_holds 79 [xA 7 2, xI x1, xI x2, xI x3, xI (w 74 ((2 * x1) + x3).toNatClampNeg)] (x_pu a []) w' Q)))))))))) : xWp (d + 3) m_Md_holds 34 [xA 7 2, xI x1, xI x2, xI x3, xU] [] w Q := by
  refine x_goN 4 (pc' := 40) (ls' := [xA 7 2, xI x1, xI x2, xI x3, xU]) (st' := [xI x1, xA 108 73, xI x3]) (w' := w) rfl ?_
  refine x_ob (P := vp_in x1 8) (pc' := 41) (ls' := [xA 7 2, xI x1, xI x2, xI x3, xU]) (st' := [xI (w 73 x1.toNatClampNeg), xI x3]) (w' := w) rfl h.1 ?_
  refine x_goN 1 (pc' := if w 73 x1.toNatClampNeg ≤ x3 then 131 else 44) (ls' := [xA 7 2, xI x1, xI x2, xI x3, xU]) (st' := []) (w' := w) rfl ?_
  refine x_br (fun c1 => ?_) (fun c1 => ?_)
  · skip
    refine x_goN 2 (pc' := 133) (ls' := [xA 7 2, xI x1, xI x2, xI 0, xU]) (st' := []) (w' := w) rfl ?_
    exact (h.2.1 c1)
  · skip
    refine x_goN 7 (pc' := 53) (ls' := [xA 7 2, xI x1, xI x2, xI x3, xU]) (st' := [xI ((2 * x1) + x3), xA 116 74]) (w' := w) rfl ?_
    refine x_ob (P := vp_in ((2 * x1) + x3) 16) (pc' := 54) (ls' := [xA 7 2, xI x1, xI x2, xI x3, xU]) (st' := [xI (w 74 ((2 * x1) + x3).toNatClampNeg)]) (w' := w) rfl (h.2.2 c1).1 ?_
    refine x_goN 4 (pc' := 61) (ls' := [xA 7 2, xI x1, xI x2, xI x3, xI (w 74 ((2 * x1) + x3).toNatClampNeg)]) (st' := [xI x1, xA 108 83]) (w' := w) rfl ?_
    refine x_ob (P := vp_in x1 8) (pc' := 62) (ls' := [xA 7 2, xI x1, xI x2, xI x3, xI (w 74 ((2 * x1) + x3).toNatClampNeg)]) (st' := [xI (w 83 x1.toNatClampNeg)]) (w' := w) rfl (h.2.2 c1).2.1 ?_
    refine x_goN 1 (pc' := 64) (ls' := [xA 7 2, xI x1, xI x2, xI x3, xI (w 74 ((2 * x1) + x3).toNatClampNeg)]) (st' := [xI (w 74 ((2 * x1) + x3).toNatClampNeg), xI (w 83 x1.toNatClampNeg)]) (w' := w) rfl ?_
    refine x_call (y := m_Md_isOf) (as := [xI (w 83 x1.toNatClampNeg), xI (w 74 ((2 * x1) + x3).toNatClampNeg)]) (rst := []) rfl [xI (w 83 x1.toNatClampNeg), xI (w 74 ((2 * x1) + x3).toNatClampNeg)] rfl ?_
    refine S_Md_isOf (fun c2 => ?_) (fun c2 => ?_)
    · skip
      refine x_goN 1 (pc' := if (1 : Int32) = (0 : Int32) then 70 else 125) (ls' := [xA 7 2, xI x1, xI x2, xI x3, xI (w 74 ((2 * x1) + x3).toNatClampNeg)]) (st' := []) (w' := w) rfl ?_
      refine x_brF (by decide) ?_
      refine x_goN 2 (pc' := 34) (ls' := [xA 7 2, xI x1, xI x2, xI (x3 + 1), xI (w 74 ((2 * x1) + x3).toNatClampNeg)]) (st' := []) (w' := w) rfl ?_
      exact x_weak (((h.2.2 c1).2.2.1 c2)) ⟨Or.inl rfl, Or.inl rfl, Or.inl rfl, Or.inl rfl, Or.inr ⟨rfl, rfl⟩, trivial⟩
    · skip
      refine x_goN 1 (pc' := if (0 : Int32) = (0 : Int32) then 70 else 125) (ls' := [xA 7 2, xI x1, xI x2, xI x3, xI (w 74 ((2 * x1) + x3).toNatClampNeg)]) (st' := []) (w' := w) rfl ?_
      refine x_brT (by decide) ?_
      refine x_goN 3 (pc' := 75) (ls' := [xA 7 2, xI x1, xI x2, xI x3, xI (w 74 ((2 * x1) + x3).toNatClampNeg)]) (st' := [xI x1, xA 108 83]) (w' := w) rfl ?_
      refine x_ob (P := vp_in x1 8) (pc' := 76) (ls' := [xA 7 2, xI x1, xI x2, xI x3, xI (w 74 ((2 * x1) + x3).toNatClampNeg)]) (st' := [xI (w 83 x1.toNatClampNeg)]) (w' := w) rfl ((h.2.2 c1).2.2.2 c2).1 ?_
      refine x_call (y := m_Md_size) (as := [xI (w 83 x1.toNatClampNeg)]) (rst := []) rfl [xI (w 83 x1.toNatClampNeg), xU, xU] rfl ?_
      exact ((h.2.2 c1).2.2.2 c2).2
theorem G_Md_holds_79 {d : Nat} {x1 : Int32} {x2 : Int32} {x3 : Int32} {x4 : Int32} {s0 : Int32} {w : xWd} {Q : xMV → xWd → Prop} (h : ((s0 = x2 → (vp_in x1 8 ∧ xWp (d + 2) m_Md_usedBy 0 [xA 7 2, xI x1, xU, xU] [] w (fun a w' => xWp (d + 3) m_Md_holds 96 [xA 7 2, xI x1, xI x2, xI x3, xI x4] (x_pu a [xI (w 83 x1.toNatClampNeg), xI x1, xA 7 2]) w' Q))) ∧ (¬ (s0 = x2) → xWp (d + 3) m_Md_holds 102 [xA 7 2, xI x1, xI x2, xI x3, xI x4] [] w Q))) : xWp (d + 3) m_Md_holds 79 [xA 7 2, xI x1, xI x2, xI x3, xI x4] [xI s0] w Q := by
  refine x_goN 2 (pc' := if s0 = x2 then 83 else 102) (ls' := [xA 7 2, xI x1, xI x2, xI x3, xI x4]) (st' := []) (w' := w) rfl ?_
  refine x_br (fun c1 => ?_) (fun c1 => ?_)
  · skip
    refine x_goN 5 (pc' := 90) (ls' := [xA 7 2, xI x1, xI x2, xI x3, xI x4]) (st' := [xI x1, xA 108 83, xI x1, xA 7 2]) (w' := w) rfl ?_
    refine x_ob (P := vp_in x1 8) (pc' := 91) (ls' := [xA 7 2, xI x1, xI x2, xI x3, xI x4]) (st' := [xI (w 83 x1.toNatClampNeg), xI x1, xA 7 2]) (w' := w) rfl (h.1 c1).1 ?_
    refine x_goN 2 (pc' := 93) (ls' := [xA 7 2, xI x1, xI x2, xI x3, xI x4]) (st' := [xI x1, xA 7 2, xI (w 83 x1.toNatClampNeg), xI x1, xA 7 2]) (w' := w) rfl ?_
    refine x_call (y := m_Md_usedBy) (as := [xA 7 2, xI x1]) (rst := [xI (w 83 x1.toNatClampNeg), xI x1, xA 7 2]) rfl [xA 7 2, xI x1, xU, xU] rfl ?_
    exact (h.1 c1).2
  · skip
    exact (h.2 c1)
theorem G_Md_holds_96 {d : Nat} {x1 : Int32} {x2 : Int32} {x3 : Int32} {x4 : Int32} {s3 : Int32} {s2 : Int32} {s1 : Int32} {w : xWd} {Q : xMV → xWd → Prop} (h : xWp (d + 2) m_Md_drops 0 [xA 7 2, xI s1, xI (s2 &&& (s3 ^^^ (-1))), xU, xU, xU, xU] [] w (fun a w' => xWp (d + 3) m_Md_holds 102 [xA 7 2, xI x1, xI x2, xI x3, xI x4] (x_pu a []) w' Q)) : xWp (d + 3) m_Md_holds 96 [xA 7 2, xI x1, xI x2, xI x3, xI x4] [xI s3, xI s2, xI s1, xA 7 2] w Q := by
  refine x_goN 3 (pc' := 99) (ls' := [xA 7 2, xI x1, xI x2, xI x3, xI x4]) (st' := [xI (s2 &&& (s3 ^^^ (-1))), xI s1, xA 7 2]) (w' := w) rfl ?_
  refine x_call (y := m_Md_drops) (as := [xA 7 2, xI s1, xI (s2 &&& (s3 ^^^ (-1)))]) (rst := []) rfl [xA 7 2, xI s1, xI (s2 &&& (s3 ^^^ (-1))), xU, xU, xU, xU] rfl ?_
  exact h
theorem G_Md_holds_102 {d : Nat} {x1 : Int32} {x2 : Int32} {x3 : Int32} {x4 : Int32} {w : xWd} {Q : xMV → xWd → Prop} (h : (vp_in x1 8 ∧ (vp_in x1 8 ∧ ∀ w1 : xWd, w1 = x_set w 83 x1.toNatClampNeg ((w 83 x1.toNatClampNeg) ||| ((1 : Int32) <<< (x4 &&& 31))) → (∀ w2 : xWd, w2 = x_set w1 2 20 ((w1 2 20) + 1) → xWp (d + 3) m_Md_holds 34 [xA 7 2, xI x1, xI x2, xI (x3 + 1), xU] [] w2 Q)))) : xWp (d + 3) m_Md_holds 102 [xA 7 2, xI x1, xI x2, xI x3, xI x4] [] w Q := by
  refine x_goN 4 (pc' := 108) (ls' := [xA 7 2, xI x1, xI x2, xI x3, xI x4]) (st' := [xI x1, xA 108 83, xI x1, xA 108 83]) (w' := w) rfl ?_
  refine x_ob (P := vp_in x1 8) (pc' := 109) (ls' := [xA 7 2, xI x1, xI x2, xI x3, xI x4]) (st' := [xI (w 83 x1.toNatClampNeg), xI x1, xA 108 83]) (w' := w) rfl h.1 ?_
  refine x_goN 4 (pc' := 114) (ls' := [xA 7 2, xI x1, xI x2, xI x3, xI x4]) (st' := [xI ((w 83 x1.toNatClampNeg) ||| ((1 : Int32) <<< (x4 &&& 31))), xI x1, xA 108 83]) (w' := w) rfl ?_
  refine x_obW (P := vp_in x1 8) (pc' := 115) (ls' := [xA 7 2, xI x1, xI x2, xI x3, xI x4]) (st' := []) (w' := x_set w 83 x1.toNatClampNeg ((w 83 x1.toNatClampNeg) ||| ((1 : Int32) <<< (x4 &&& 31)))) rfl h.2.1 (fun w1 ew1 => ?_)
  refine x_goN 5 (pc' := 122) (ls' := [xA 7 2, xI x1, xI x2, xI x3, xI x4]) (st' := [xI ((w1 2 20) + 1), xA 7 2]) (w' := w1) rfl ?_
  refine x_goW (pc' := 125) (ls' := [xA 7 2, xI x1, xI x2, xI x3, xI x4]) (st' := []) (w' := x_set w1 2 20 ((w1 2 20) + 1)) rfl (fun w2 ew2 => ?_)
  refine x_goN 2 (pc' := 34) (ls' := [xA 7 2, xI x1, xI x2, xI (x3 + 1), xI x4]) (st' := []) (w' := w2) rfl ?_
  exact x_weak (((h.2.2 w1 ew1) w2 ew2)) ⟨Or.inl rfl, Or.inl rfl, Or.inl rfl, Or.inl rfl, Or.inr ⟨rfl, rfl⟩, trivial⟩
theorem G_Md_holds_133 {d : Nat} {x1 : Int32} {x2 : Int32} {x3 : Int32} {w : xWd} {Q : xMV → xWd → Prop} (h : ((w 2 5 ≤ x3 → (vp_in x1 8 ∧ xWp (d + 2) m_Md_size 0 [xI (w 83 x1.toNatClampNeg), xU, xU] [] w (fun a w' => xWp (d + 3) m_Md_holds 185 [xA 7 2, xI x1, xI x2, xI x3, xU] (x_pu a []) w' Q))) ∧ (¬ (w 2 5 ≤ x3) → (vp_in x1 8 ∧ xWp (d + 2) m_Md_laterUse 0 [xA 7 2, xI x1, xI x3, xU, xU, xU, xU] [] w (fun a w' => xWp (d + 3) m_Md_holds 154 [xA 7 2, xI x1, xI x2, xI x3, xU] (x_pu a [xI (w 83 x1.toNatClampNeg), xI x1, xA 108 83]) w' Q))))) : xWp (d + 3) m_Md_holds 133 [xA 7 2, xI x1, xI x2, xI x3, xU] [] w Q := by
  refine x_goN 4 (pc' := if w 2 5 ≤ x3 then 176 else 141) (ls' := [xA 7 2, xI x1, xI x2, xI x3, xU]) (st' := []) (w' := w) rfl ?_
  refine x_br (fun c1 => ?_) (fun c1 => ?_)
  · skip
    refine x_goN 3 (pc' := 181) (ls' := [xA 7 2, xI x1, xI x2, xI x3, xU]) (st' := [xI x1, xA 108 83]) (w' := w) rfl ?_
    refine x_ob (P := vp_in x1 8) (pc' := 182) (ls' := [xA 7 2, xI x1, xI x2, xI x3, xU]) (st' := [xI (w 83 x1.toNatClampNeg)]) (w' := w) rfl (h.1 c1).1 ?_
    refine x_call (y := m_Md_size) (as := [xI (w 83 x1.toNatClampNeg)]) (rst := []) rfl [xI (w 83 x1.toNatClampNeg), xU, xU] rfl ?_
    exact (h.1 c1).2
  · skip
    refine x_goN 4 (pc' := 147) (ls' := [xA 7 2, xI x1, xI x2, xI x3, xU]) (st' := [xI x1, xA 108 83, xI x1, xA 108 83]) (w' := w) rfl ?_
    refine x_ob (P := vp_in x1 8) (pc' := 148) (ls' := [xA 7 2, xI x1, xI x2, xI x3, xU]) (st' := [xI (w 83 x1.toNatClampNeg), xI x1, xA 108 83]) (w' := w) rfl (h.2 c1).1 ?_
    refine x_goN 3 (pc' := 151) (ls' := [xA 7 2, xI x1, xI x2, xI x3, xU]) (st' := [xI x3, xI x1, xA 7 2, xI (w 83 x1.toNatClampNeg), xI x1, xA 108 83]) (w' := w) rfl ?_
    refine x_call (y := m_Md_laterUse) (as := [xA 7 2, xI x1, xI x3]) (rst := [xI (w 83 x1.toNatClampNeg), xI x1, xA 108 83]) rfl [xA 7 2, xI x1, xI x3, xU, xU, xU, xU] rfl ?_
    exact (h.2 c1).2
theorem G_Md_holds_154 {d : Nat} {x1 : Int32} {x2 : Int32} {x3 : Int32} {s3 : Int32} {s2 : Int32} {s1 : Int32} {w : xWd} {Q : xMV → xWd → Prop} (h : ((s3 = (-9) → (vp_in s1 8 ∧ ∀ w1 : xWd, w1 = x_set w 83 s1.toNatClampNeg (s2 &&& (((1 : Int32) <<< (x3 &&& 31)) ^^^ (-1))) → xWp (d + 3) m_Md_holds 133 [xA 7 2, xI x1, xI x2, xI (x3 + 1), xU] [] w1 Q)) ∧ (¬ (s3 = (-9)) → (vp_in s1 8 ∧ ∀ w2 : xWd, w2 = x_set w 83 s1.toNatClampNeg (s2 &&& (-1)) → xWp (d + 3) m_Md_holds 133 [xA 7 2, xI x1, xI x2, xI (x3 + 1), xU] [] w2 Q)))) : xWp (d + 3) m_Md_holds 154 [xA 7 2, xI x1, xI x2, xI x3, xU] [xI s3, xI s2, xI s1, xA 108 83] w Q := by
  refine x_goN 2 (pc' := if s3 = (-9) then 159 else 167) (ls' := [xA 7 2, xI x1, xI x2, xI x3, xU]) (st' := [xI s2, xI s1, xA 108 83]) (w' := w) rfl ?_
  refine x_br (fun c1 => ?_) (fun c1 => ?_)
  · skip
    refine x_goN 7 (pc' := 169) (ls' := [xA 7 2, xI x1, xI x2, xI x3, xU]) (st' := [xI (s2 &&& (((1 : Int32) <<< (x3 &&& 31)) ^^^ (-1))), xI s1, xA 108 83]) (w' := w) rfl ?_
    refine x_obW (P := vp_in s1 8) (pc' := 170) (ls' := [xA 7 2, xI x1, xI x2, xI x3, xU]) (st' := []) (w' := x_set w 83 s1.toNatClampNeg (s2 &&& (((1 : Int32) <<< (x3 &&& 31)) ^^^ (-1)))) rfl (h.1 c1).1 (fun w1 ew1 => ?_)
    refine x_goN 2 (pc' := 133) (ls' := [xA 7 2, xI x1, xI x2, xI (x3 + 1), xU]) (st' := []) (w' := w1) rfl ?_
    exact ((h.1 c1).2 w1 ew1)
  · skip
    refine x_goN 2 (pc' := 169) (ls' := [xA 7 2, xI x1, xI x2, xI x3, xU]) (st' := [xI (s2 &&& (-1)), xI s1, xA 108 83]) (w' := w) rfl ?_
    refine x_obW (P := vp_in s1 8) (pc' := 170) (ls' := [xA 7 2, xI x1, xI x2, xI x3, xU]) (st' := []) (w' := x_set w 83 s1.toNatClampNeg (s2 &&& (-1))) rfl (h.2 c1).1 (fun w2 ew2 => ?_)
    refine x_goN 2 (pc' := 133) (ls' := [xA 7 2, xI x1, xI x2, xI (x3 + 1), xU]) (st' := []) (w' := w2) rfl ?_
    exact ((h.2 c1).2 w2 ew2)
theorem G_Md_holds_185 {d : Nat} {x1 : Int32} {x2 : Int32} {x3 : Int32} {s0 : Int32} {w : xWd} {Q : xMV → xWd → Prop} (h : ((s0 = x2 → (vp_in x1 8 ∧ xWp (d + 2) m_Md_drops 0 [xA 7 2, xI x1, xI (w 83 x1.toNatClampNeg), xU, xU, xU, xU] [] w (fun a w' => xWp (d + 3) m_Md_holds 200 [xA 7 2, xI x1, xI x2, xI x3, xU] (x_pu a []) w' Q))) ∧ (¬ (s0 = x2) → xWp (d + 3) m_Md_holds 200 [xA 7 2, xI x1, xI x2, xI x3, xU] [] w Q))) : xWp (d + 3) m_Md_holds 185 [xA 7 2, xI x1, xI x2, xI x3, xU] [xI s0] w Q := by
  refine x_goN 2 (pc' := if s0 = x2 then 189 else 200) (ls' := [xA 7 2, xI x1, xI x2, xI x3, xU]) (st' := []) (w' := w) rfl ?_
  refine x_br (fun c1 => ?_) (fun c1 => ?_)
  · skip
    refine x_goN 5 (pc' := 196) (ls' := [xA 7 2, xI x1, xI x2, xI x3, xU]) (st' := [xI x1, xA 108 83, xI x1, xA 7 2]) (w' := w) rfl ?_
    refine x_ob (P := vp_in x1 8) (pc' := 197) (ls' := [xA 7 2, xI x1, xI x2, xI x3, xU]) (st' := [xI (w 83 x1.toNatClampNeg), xI x1, xA 7 2]) (w' := w) rfl (h.1 c1).1 ?_
    refine x_call (y := m_Md_drops) (as := [xA 7 2, xI x1, xI (w 83 x1.toNatClampNeg)]) (rst := []) rfl [xA 7 2, xI x1, xI (w 83 x1.toNatClampNeg), xU, xU, xU, xU] rfl ?_
    exact (h.1 c1).2
  · skip
    exact (h.2 c1)
theorem G_Md_holds_200 {d : Nat} {x1 : Int32} {x2 : Int32} {x3 : Int32} {w : xWd} {Q : xMV → xWd → Prop} (h : (vp_in x1 8 ∧ (vp_in x1 8 ∧ ∀ w1 : xWd, w1 = x_set w 83 x1.toNatClampNeg ((w 83 x1.toNatClampNeg) ||| ((1 : Int32) <<< (x1 &&& 31))) → Q xU w1))) : xWp (d + 3) m_Md_holds 200 [xA 7 2, xI x1, xI x2, xI x3, xU] [] w Q := by
  refine x_goN 4 (pc' := 206) (ls' := [xA 7 2, xI x1, xI x2, xI x3, xU]) (st' := [xI x1, xA 108 83, xI x1, xA 108 83]) (w' := w) rfl ?_
  refine x_ob (P := vp_in x1 8) (pc' := 207) (ls' := [xA 7 2, xI x1, xI x2, xI x3, xU]) (st' := [xI (w 83 x1.toNatClampNeg), xI x1, xA 108 83]) (w' := w) rfl h.1 ?_
  refine x_goN 4 (pc' := 211) (ls' := [xA 7 2, xI x1, xI x2, xI x3, xU]) (st' := [xI ((w 83 x1.toNatClampNeg) ||| ((1 : Int32) <<< (x1 &&& 31))), xI x1, xA 108 83]) (w' := w) rfl ?_
  refine x_obW (P := vp_in x1 8) (pc' := 212) (ls' := [xA 7 2, xI x1, xI x2, xI x3, xU]) (st' := []) (w' := x_set w 83 x1.toNatClampNeg ((w 83 x1.toNatClampNeg) ||| ((1 : Int32) <<< (x1 &&& 31)))) rfl h.2.1 (fun w1 ew1 => ?_)
  exact x_ret (P := True) rfl trivial (h.2.2 w1 ew1)
theorem L_Md_holds_be {d l k : Nat} {T : xT} {H : xH} {w0 : xWd} {Q : xMV → xWd → Prop} (hS : tS w0 T) (hl : l < tn T) (hk3 : 3 ≤ k) (hk : k ≤ 8) (hH : hM w0 l H) (ho : hOk (tn T) k H.1) (h : ∀ w', fH l w0 w' → hM w' l (h_ad l (h_rm T l k (h_be T l H).1 (h_be T l H))) → Q xU w') : ∀ (m v : Nat) (w : xWd), v + m = tn T → fH l w0 w → hM w l (z_fl T l H.1 v, H.2) → xWp (d + 3) m_Md_holds 133 [xA 7 2, xI (nI l), xI (nI k), xI (nI v), xU] [] w Q := by
  have h8 := tS_n8 hS
  have hin : vp_in (nI l) 8 := z_in (by omega) (by decide)
  have ecl : (nI l).toNatClampNeg = l := z_cl' (by omega)
  intro m
  induction m with
  | zero =>
    intro v w hv hf hw
    have e : v = tn T := by omega
    subst e
    rw [z_fl_n ho.1 ho.2.1] at hw
    have hw' : hM w l (h_be T l H) := hw
    have hb := h_be_ok (l := l) ho
    have hS' := fH_S hS hf
    obtain ⟨r1, r2, r3⟩ := h_rm_ok (l := l) (k := k) (c := (h_be T l H).1) hS.2.1 hb (fun q => h_some hk3 q) (fun v _ q => q)
    have fin : ∀ w1, fH l w0 w1 → hM w1 l (h_rm T l k (h_be T l H).1 (h_be T l H)) → ∀ x, xWp (d + 3) m_Md_holds 200 [xA 7 2, xI (nI l), xI (nI k), xI x, xU] [] w1 Q := by
      intro w1 hf1 hw1 x
      refine G_Md_holds_200 ⟨hin, hin, fun w2 e2 => ?_⟩
      rw [ecl, hw1.1, z_shl l (by omega), fa_or] at e2
      refine h w2 (fH_tr hf1 (fH_83 e2)) ⟨?_, ?_, ?_, ?_⟩
      · rw [e2, x_set_s, upd_s]; rfl
      · rw [e2, x_set_o (by decide)]; exact hw1.2.1
      · rw [e2, x_set_o (by decide)]; exact hw1.2.2.1
      · rw [e2, x_set_o (by decide)]; exact hw1.2.2.2
    refine G_Md_holds_133 ⟨fun _ => ⟨hin, ?_⟩, fun c => absurd (tS_end hS') c⟩
    rw [ecl, hw'.1]
    refine S_Md_size hb.1 ?_
    refine G_Md_holds_185 ?_
    have hpc := hb.2.2
    rw [ecl, hw'.1, z_eq (by omega) (by omega)]
    refine ⟨fun q => ⟨hin, ?_⟩, fun q => ?_⟩
    · have hle : k ≤ z_pc (h_be T l H).1 := by omega
      refine S_Md_drops hS' hl hb.1 hw' hb.1 (r3 hle) (fun w1 hf1 hw1 => ?_)
      rw [← h_rm_y hle] at hw1
      exact fin w1 (fH_tr hf hf1) hw1 _
    · have hle : ¬ k ≤ z_pc (h_be T l H).1 := by omega
      refine fin w hf ?_ _
      rw [h_rm_n hle]; exact hw'
  | succ m ih =>
    intro v w hv hf hw
    have hlt : v < tn T := by omega
    have hS' := fH_S hS hf
    have hle := tL_le hS.2.1 (l := l) (v := v)
    refine G_Md_holds_133 ⟨fun c => absurd c (tS_ge hS' hlt), fun _ => ⟨hin, S_Md_laterUse hS' (by omega) hl ?_⟩⟩
    refine G_Md_holds_154 ?_
    rw [ecl, hw.1, z_shl v (by omega), z_clr _ (z_fl_lt _ _ _ _) v (by omega), z_m1, luI_9 (by omega), nI_1]
    refine ⟨fun q => ⟨hin, fun w1 e1 => ih (v + 1) w1 (by omega) (fH_tr hf (fH_83 e1)) ?_⟩, fun q => ⟨hin, fun w1 e1 => ih (v + 1) w1 (by omega) (fH_tr hf (fH_83 e1)) ?_⟩⟩
    · have hu : ub T l v = false := by
        cases hb : ub T l v with
        | true => exact absurd q ((tL_ub hS.2.1).mpr hb)
        | false => rfl
      rw [z_fl_c (by omega) hu] at e1
      refine ⟨by rw [e1, x_set_s, upd_s], ?_, ?_, ?_⟩
      · rw [e1, x_set_o (by decide)]; exact hw.2.1
      · rw [e1, x_set_o (by decide)]; exact hw.2.2.1
      · rw [e1, x_set_o (by decide)]; exact hw.2.2.2
    · have hu : ub T l v = true := (tL_ub hS.2.1).mp q
      rw [z_fl_y hu] at e1
      refine ⟨by rw [e1, x_set_s, upd_s], ?_, ?_, ?_⟩
      · rw [e1, x_set_o (by decide)]; exact hw.2.1
      · rw [e1, x_set_o (by decide)]; exact hw.2.2.1
      · rw [e1, x_set_o (by decide)]; exact hw.2.2.2
theorem L_Md_holds {d l k : Nat} {T : xT} {H0 : xH} {w0 : xWd} {Q : xMV → xWd → Prop} (hS : tS w0 T) (hl : l < tn T) (hk3 : 3 ≤ k) (hk : k ≤ 8) (ho : hOk (tn T) k H0.1) (h : ∀ w', fH l w0 w' → hM w' l (h_ln T l k H0) → Q xU w') : ∀ (m i : Nat) (w : xWd), i + m = tm T l → fH l w0 w → hM w l (h_us T l k H0 i) → xWp (d + 3) m_Md_holds 34 [xA 7 2, xI (nI l), xI (nI k), xI (nI i), xU] [] w Q := by
  have h8 := tS_n8 hS
  have hm2 := tS_m2 hS hl
  have hin : vp_in (nI l) 8 := z_in (by omega) (by decide)
  have ecl : (nI l).toNatClampNeg = l := z_cl' (by omega)
  intro m
  induction m with
  | zero =>
    intro i w hi hf hw
    have e : i = tm T l := by omega
    subst e
    have hS' := fH_S hS hf
    have hu := h_us_ok hS.2 hl hk3 ho (tm T l) (Nat.le_refl _)
    refine G_Md_holds_34 ⟨hin, fun _ => ?_, fun c => absurd ?_ c⟩
    · refine L_Md_holds_be hS' hl hk3 hk hw hu (fun w' hf' hw' => h w' (fH_tr hf hf') hw') (tn T) 0 w (Nat.zero_add _) (fH_rf l w) ?_
      rw [z_fl_0 hu.1]; exact hw
    · rw [tM_m hS' hl, z_le (by omega) (by omega)]; exact Nat.le_refl _
  | succ m ih =>
    intro i w hi hf hw
    have hlt : i < tm T l := by omega
    have hS' := fH_S hS hf
    have hu := h_us_ok hS.2 hl hk3 ho i (by omega)
    have hv := tu_lt hS.2 hl hlt
    have step : h_us T l k H0 (i + 1) = h_u1 T l k i (h_us T l k H0 i) := rfl
    refine G_Md_holds_34 ⟨hin, fun c => absurd c ?_, fun _ => ?_⟩
    · rw [tM_m hS' hl, z_le (by omega) (by omega)]; omega
    rw [z_2l, z_cl' (show 2 * l + i < 2 ^ 31 by omega), tM_u hS' hl hlt, ecl, hw.1]
    refine ⟨z_in (by omega) (by decide), hin, fun c => ?_, fun c => ⟨hin, S_Md_size hu.1 ?_⟩⟩
    · have hb := (z_bit' hu.1 hv).mp c
      rw [nI_1]
      refine ih (i + 1) w (by omega) hf ?_
      rw [step]; unfold h_u1; rw [if_pos hb]; exact hw
    · have hb := fun q => c ((z_bit' hu.1 hv).mpr q)
      obtain ⟨r1, r2, r3⟩ := h_rm_ok (l := l) (k := k) (c := z_df (h_us T l k H0 i).1 (tU T l)) hS.2.1 hu (fun q => h_cand hS.2 hl hk3 q) (fun v hv q => by rw [z_df_tb hv, Bool.and_eq_true] at q; exact q.1)
      have fin : ∀ w1, fH l w0 w1 → hM w1 l (h_rm T l k (z_df (h_us T l k H0 i).1 (tU T l)) (h_us T l k H0 i)) → xWp (d + 3) m_Md_holds 102 [xA 7 2, xI (nI l), xI (nI k), xI (nI i), xI (nI (tu T (2 * l + i)))] [] w1 Q := by
        intro w1 hf1 hw1
        refine G_Md_holds_102 ⟨hin, hin, fun w2 e2 w3 e3 => ?_⟩
        rw [ecl, hw1.1, z_shl _ (by omega), fa_or] at e2
        have k2 : w2 2 20 = nI (h_rm T l k (z_df (h_us T l k H0 i).1 (tU T l)) (h_us T l k H0 i)).2.2.1 := by rw [e2, x_set_o (by decide)]; exact hw1.2.2.1
        rw [k2, nI_1] at e3
        rw [nI_1]
        refine ih (i + 1) w3 (by omega) (fH_tr hf1 (fH_tr (fH_83 e2) (fH_2 (by decide) e3))) ?_
        rw [step]; unfold h_u1; rw [if_neg hb]
        refine ⟨?_, ?_, ?_, ?_⟩
        · rw [e3, x_set_o (by decide), e2, x_set_s, upd_s]
        · rw [e3, x_set_s, upd_o (by decide), e2, x_set_o (by decide)]; exact hw1.2.1
        · rw [e3, x_set_s, upd_s]
        · rw [e3, x_set_s, upd_o (by decide), e2, x_set_o (by decide)]; exact hw1.2.2.2
      have hpc := hu.2.2
      refine G_Md_holds_79 ?_
      rw [ecl, hw.1, z_eq (by omega) (by omega)]
      refine ⟨fun q => ⟨hin, S_Md_usedBy hS' hl ?_⟩, fun q => ?_⟩
      · have hle : k ≤ z_pc (h_us T l k H0 i).1 := by omega
        refine G_Md_holds_96 ?_
        rw [z_df_ok hu.1]
        refine S_Md_drops hS' hl (z_df_lt _ _) hw hu.1 (r3 hle) (fun w1 hf1 hw1 => ?_)
        rw [← h_rm_y hle] at hw1
        exact fin w1 (fH_tr hf hf1) hw1
      · have hle : ¬ k ≤ z_pc (h_us T l k H0 i).1 := by omega
        refine fin w hf ?_
        rw [h_rm_n hle]; exact hw
theorem G_Md_findHeld_0 {d : Nat} {x1 : Int32} {w : xWd} {Q : xMV → xWd → Prop} (h : (∀ w1 : xWd, w1 = x_set w 2 19 0 → (∀ w2 : xWd, w2 = x_set w1 2 20 0 → (∀ w3 : xWd, w3 = x_set w2 2 21 0 → xWp (d + 4) m_Md_findHeld 17 [xA 7 2, xI x1, xI 0] [] w3 Q)))) : xWp (d + 4) m_Md_findHeld 0 [xA 7 2, xI x1, xU] [] w Q := by
  refine x_goN 2 (pc' := 2) (ls' := [xA 7 2, xI x1, xU]) (st' := [xI 0, xA 7 2]) (w' := w) rfl ?_
  refine x_goW (pc' := 5) (ls' := [xA 7 2, xI x1, xU]) (st' := []) (w' := x_set w 2 19 0) rfl (fun w1 ew1 => ?_)
  refine x_goN 2 (pc' := 7) (ls' := [xA 7 2, xI x1, xU]) (st' := [xI 0, xA 7 2]) (w' := w1) rfl ?_
  refine x_goW (pc' := 10) (ls' := [xA 7 2, xI x1, xU]) (st' := []) (w' := x_set w1 2 20 0) rfl (fun w2 ew2 => ?_)
  refine x_goN 2 (pc' := 12) (ls' := [xA 7 2, xI x1, xU]) (st' := [xI 0, xA 7 2]) (w' := w2) rfl ?_
  refine x_goW (pc' := 15) (ls' := [xA 7 2, xI x1, xU]) (st' := []) (w' := x_set w2 2 21 0) rfl (fun w3 ew3 => ?_)
  refine x_goN 2 (pc' := 17) (ls' := [xA 7 2, xI x1, xI 0]) (st' := []) (w' := w3) rfl ?_
  exact (((h w1 ew1) w2 ew2) w3 ew3)
theorem G_Md_findHeld_17 {d : Nat} {x1 : Int32} {x2 : Int32} {w : xWd} {Q : xMV → xWd → Prop} (h : ((w 2 5 ≤ x2 → Q xU w) ∧ (¬ (w 2 5 ≤ x2) → xWp (d + 3) m_Md_holds 0 [xA 7 2, xI x2, xI x1, xU, xU] [] w (fun a w' => xWp (d + 4) m_Md_findHeld 31 [xA 7 2, xI x1, xI x2] (x_pu a []) w' Q)))) : xWp (d + 4) m_Md_findHeld 17 [xA 7 2, xI x1, xI x2] [] w Q := by
  refine x_goN 4 (pc' := if w 2 5 ≤ x2 then 37 else 25) (ls' := [xA 7 2, xI x1, xI x2]) (st' := []) (w' := w) rfl ?_
  refine x_br (fun c1 => ?_) (fun c1 => ?_)
  · skip
    exact x_ret (P := True) rfl trivial (h.1 c1)
  · skip
    refine x_goN 3 (pc' := 28) (ls' := [xA 7 2, xI x1, xI x2]) (st' := [xI x1, xI x2, xA 7 2]) (w' := w) rfl ?_
    refine x_call (y := m_Md_holds) (as := [xA 7 2, xI x2, xI x1]) (rst := []) rfl [xA 7 2, xI x2, xI x1, xU, xU] rfl ?_
    exact (h.2 c1)
theorem G_Md_findHeld_31 {d : Nat} {x1 : Int32} {x2 : Int32} {w : xWd} {Q : xMV → xWd → Prop} (h : xWp (d + 4) m_Md_findHeld 17 [xA 7 2, xI x1, xI (x2 + 1)] [] w Q) : xWp (d + 4) m_Md_findHeld 31 [xA 7 2, xI x1, xI x2] [] w Q := by
  refine x_goN 2 (pc' := 17) (ls' := [xA 7 2, xI x1, xI (x2 + 1)]) (st' := []) (w' := w) rfl ?_
  exact h
def fHB (w w' : xWd) : Prop := (∀ a, a ≠ 2 → a ≠ 83 → w' a = w a) ∧ ∀ j, (j < 19 ∨ 21 < j) → w' 2 j = w 2 j
theorem fHB_S {w w' : xWd} {T : xT} (hS : tS w T) (h : fHB w w') : tS w' T := tS_fr hS (h.2 5 (by omega)) (h.1 _ (by decide) (by decide)) (h.1 _ (by decide) (by decide)) (h.1 _ (by decide) (by decide)) (h.1 _ (by decide) (by decide))
def hMg (w : xWd) (G : (Nat → Nat) × xH) (l : Nat) : Prop := (w 2 19 = nI G.2.2.1 ∧ w 2 20 = nI G.2.2.2.1 ∧ w 2 21 = nI G.2.2.2.2) ∧ ∀ j, j < l → w 83 j = nI (G.1 j)
theorem L_Md_findHeld {d k : Nat} {T : xT} {w0 : xWd} {Q : xMV → xWd → Prop} (hS : tS w0 T) (hk3 : 3 ≤ k) (hk : k ≤ 8) (h : ∀ w', fHB w0 w' → hMg w' (h_go T k (tn T)) (tn T) → Q xU w') : ∀ (m l : Nat) (w : xWd), l + m = tn T → fHB w0 w → hMg w (h_go T k l) l → xWp (d + 4) m_Md_findHeld 17 [xA 7 2, xI (nI k), xI (nI l)] [] w Q := by
  have h8 := tS_n8 hS
  intro m
  induction m with
  | zero =>
    intro l w hl hg hG
    have e : l = tn T := by omega
    subst e
    exact G_Md_findHeld_17 ⟨fun _ => h w hg hG, fun c => absurd (tS_end (fHB_S hS hg)) c⟩
  | succ m ih =>
    intro l w hl hg hG
    have hlt : l < tn T := by omega
    have hS' := fHB_S hS hg
    have hin := h_in_ok hS.2 (k := k) (l := l) hk3 (by omega)
    have hil : vp_in (nI l) 8 := z_in (by omega) (by decide)
    have ecl : (nI l).toNatClampNeg = l := z_cl' (by omega)
    have fin : ∀ (w1 : xWd), w1 = x_set w 83 l (nI (h_in T k l).1) → xWp (d + 3) m_Md_holds 34 [xA 7 2, xI (nI l), xI (nI k), xI 0, xU] [] w1 (fun a w' => xWp (d + 4) m_Md_findHeld 31 [xA 7 2, xI (nI k), xI (nI l)] (x_pu a []) w' Q) := by
      intro w1 e1
      have hf1 := fH_83 e1
      have hH1 : hM w1 l (h_in T k l) := by
        refine ⟨by rw [e1, x_set_s, upd_s], ?_, ?_, ?_⟩
        · rw [e1, x_set_o (by decide)]; exact hG.1.1
        · rw [e1, x_set_o (by decide)]; exact hG.1.2.1
        · rw [e1, x_set_o (by decide)]; exact hG.1.2.2
      refine L_Md_holds (fH_S hS' hf1) hlt hk3 hk hin (fun w2 hf2 hw2 => ?_) (tm T l) 0 w1 (Nat.zero_add _) (fH_rf l w1) hH1
      refine G_Md_findHeld_31 ?_
      rw [nI_1]
      have hf3 := fH_tr hf1 hf2
      refine ih (l + 1) w2 (by omega) ⟨fun a a1 a2 => (hf3.1 a a1 a2).trans (hg.1 a a1 a2), fun j hj => (hf3.2.1 j hj).trans (hg.2 j hj)⟩ ?_
      rw [h_go_s]
      refine ⟨⟨hw2.2.1, hw2.2.2.1, hw2.2.2.2⟩, fun j hj => ?_⟩
      show w2 83 j = nI (if j = l then (h_ln T l k (h_in T k l)).1 else (h_go T k l).1 j)
      by_cases e : j = l
      · rw [if_pos e, e]; exact hw2.1
      · rw [if_neg e, hf3.2.2 j e]; exact hG.2 j (by omega)
    refine G_Md_findHeld_17 ⟨fun c => absurd c (tS_ge hS' hlt), fun _ => G_Md_holds_0 ⟨hil, ?_⟩⟩
    rw [tM_a hS' hlt, ecl]
    by_cases e0 : l = 0
    · have ha8 : ta T l = 8 := (hS.2.1.2 l hlt).1 e0
      refine ⟨fun _ => ⟨hil, fun w1 e1 => fin w1 ?_⟩, fun c => absurd (by rw [ha8]; rfl) c⟩
      have : (h_in T k l).1 = 0 := by
        show (if ta T l < 8 then (h_go T k l).1 (ta T l) else 0) = 0
        rw [if_neg (by omega)]
      rw [this]; exact e1
    · have hal := (hS.2.1.2 l hlt).2 (by omega)
      refine ⟨fun c => absurd ((z_eq (b := 8) (by omega) (by decide)).mp c) (by omega), fun _ => ⟨hil, z_in (by omega) (by decide), hil, fun w1 e1 => fin w1 ?_⟩⟩
      have : (h_in T k l).1 = (h_go T k l).1 (ta T l) := by
        show (if ta T l < 8 then (h_go T k l).1 (ta T l) else 0) = _
        rw [if_pos (by omega)]
      rw [this, ← hG.2 (ta T l) hal]
      rw [z_cl' (by omega)] at e1
      exact e1
theorem S_Md_findHeld {d k : Nat} {T : xT} {w : xWd} {Q : xMV → xWd → Prop} (hS : tS w T) (hk3 : 3 ≤ k) (hk : k ≤ 8) (h : ∀ w', fHB w w' → hMg w' (h_go T k (tn T)) (tn T) → Q xU w') : xWp (d + 4) m_Md_findHeld 0 [xA 7 2, xI (nI k), xU] [] w Q := by
  refine G_Md_findHeld_0 (fun w1 e1 w2 e2 w3 e3 => ?_)
  refine L_Md_findHeld hS hk3 hk h (tn T) 0 w3 (Nat.zero_add _) ⟨fun a a1 a2 => by rw [e3, x_set_o a1, e2, x_set_o a1, e1, x_set_o a1], fun j hj => by rw [e3, x_set_s, upd_o (by omega), e2, x_set_s, upd_o (by omega), e1, x_set_s, upd_o (by omega)]⟩ ⟨⟨?_, ?_, ?_⟩, fun j hj => absurd hj (Nat.not_lt_zero _)⟩
  · rw [e3, x_set_s, upd_o (by decide), e2, x_set_s, upd_o (by decide), e1, x_set_s, upd_s]; rfl
  · rw [e3, x_set_s, upd_o (by decide), e2, x_set_s, upd_s]; rfl
  · rw [e3, x_set_s, upd_s]; rfl

