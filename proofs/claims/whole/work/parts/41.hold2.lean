/-! HOLD: the class -/
def hC (w : xWd) (H : xH) : Prop := w 37 4 = nI H.1 ∧ w 37 1 = nI H.2.1 ∧ w 37 2 = nI H.2.2.1 ∧ w 37 3 = nI H.2.2.2
def gH (w w' : xWd) : Prop := ∀ a, a ≠ 37 → w' a = w a
theorem gH_R {w w' : xWd} {t : Nat} {T : xT} (ht : t = 34 ∨ t = 35) (hR : tR w t T) (h : gH w w') : tR w' t T := tR_fr hR (h _ (by omega)) (fun i hi => h _ (by omega))
theorem gH_tr {w w1 w2 : xWd} (h : gH w w1) (h2 : gH w1 w2) : gH w w2 := fun a ha => (h2 a ha).trans (h a ha)
theorem G_Ho_dropValue_0 {d : Nat} {x1 : Int32} {x2 : Int32} {w : xWd} {Q : xMV → xWd → Prop} (h : (∀ w1 : xWd, w1 = x_set w 37 4 ((w 37 4) &&& (((1 : Int32) <<< (x1 &&& 31)) ^^^ (-1))) → (∀ w2 : xWd, w2 = x_set w1 37 3 ((w1 37 3) + 1) → ((x2 = 0 → Q xU w2) ∧ (¬ (x2 = 0) → (∀ w3 : xWd, w3 = x_set w2 37 1 ((w2 37 1) ||| ((1 : Int32) <<< (x1 &&& 31))) → Q xU w3)))))) : xWp d m_Ho_dropValue 0 [xA 0 37, xI x1, xI x2] [] w Q := by
  refine x_goN 9 (pc' := 11) (ls' := [xA 0 37, xI x1, xI x2]) (st' := [xI ((w 37 4) &&& (((1 : Int32) <<< (x1 &&& 31)) ^^^ (-1))), xA 0 37]) (w' := w) rfl ?_
  refine x_goW (pc' := 14) (ls' := [xA 0 37, xI x1, xI x2]) (st' := []) (w' := x_set w 37 4 ((w 37 4) &&& (((1 : Int32) <<< (x1 &&& 31)) ^^^ (-1)))) rfl (fun w1 ew1 => ?_)
  refine x_goN 5 (pc' := 21) (ls' := [xA 0 37, xI x1, xI x2]) (st' := [xI ((w1 37 3) + 1), xA 0 37]) (w' := w1) rfl ?_
  refine x_goW (pc' := 24) (ls' := [xA 0 37, xI x1, xI x2]) (st' := []) (w' := x_set w1 37 3 ((w1 37 3) + 1)) rfl (fun w2 ew2 => ?_)
  refine x_goN 2 (pc' := if x2 = 0 then 40 else 28) (ls' := [xA 0 37, xI x1, xI x2]) (st' := []) (w' := w2) rfl ?_
  refine x_br (fun c1 => ?_) (fun c1 => ?_)
  · skip
    exact x_ret (P := True) rfl trivial (((h w1 ew1) w2 ew2).1 c1)
  · skip
    refine x_goN 7 (pc' := 37) (ls' := [xA 0 37, xI x1, xI x2]) (st' := [xI ((w2 37 1) ||| ((1 : Int32) <<< (x1 &&& 31))), xA 0 37]) (w' := w2) rfl ?_
    refine x_goW (pc' := 40) (ls' := [xA 0 37, xI x1, xI x2]) (st' := []) (w' := x_set w2 37 1 ((w2 37 1) ||| ((1 : Int32) <<< (x1 &&& 31)))) rfl (fun w3 ew3 => ?_)
    exact x_ret (P := True) rfl trivial ((((h w1 ew1) w2 ew2).2 c1) w3 ew3)
theorem S_Ho_dropValue {d b sp : Nat} {H : xH} {w : xWd} {Q : xMV → xWd → Prop} {x : Int32} (hb : b < 8) (hH : hC w H) (hm : H.1 < 256) (hs0 : x = 0 → sp = H.2.1) (hs1 : x ≠ 0 → sp = H.2.1 ||| 2 ^ b) (h : ∀ w', gH w w' → hC w' (z_cl H.1 b, sp, H.2.2.1, H.2.2.2 + 1) → Q xU w') : xWp d m_Ho_dropValue 0 [xA 0 37, xI (nI b), xI x] [] w Q := by
  obtain ⟨a4, a1, a2, a3⟩ := hH
  refine G_Ho_dropValue_0 (fun w1 e1 w2 e2 => ?_)
  rw [a4, z_shl b (by omega), z_clr _ hm b hb] at e1
  have k3 : w1 37 3 = nI H.2.2.2 := by rw [e1, x_set_s, upd_o (by decide)]; exact a3
  rw [k3, nI_1] at e2
  have b4 : w2 37 4 = nI (z_cl H.1 b) := by rw [e2, x_set_s, upd_o (by decide), e1, x_set_s, upd_s]
  have b1 : w2 37 1 = nI H.2.1 := by rw [e2, x_set_s, upd_o (by decide), e1, x_set_s, upd_o (by decide)]; exact a1
  have b2 : w2 37 2 = nI H.2.2.1 := by rw [e2, x_set_s, upd_o (by decide), e1, x_set_s, upd_o (by decide)]; exact a2
  have b3 : w2 37 3 = nI (H.2.2.2 + 1) := by rw [e2, x_set_s, upd_s]
  have g2 : gH w w2 := fun a ha => by rw [e2, x_set_o ha, e1, x_set_o ha]
  refine ⟨fun c => ?_, fun c w3 e3 => ?_⟩
  · rw [hs0 c] at h
    exact h w2 g2 ⟨b4, b1, b2, b3⟩
  · rw [b1, z_shl b (by omega), fa_or] at e3
    rw [hs1 c] at h
    refine h w3 (fun a ha => by rw [e3, x_set_o ha]; exact g2 a ha) ⟨?_, ?_, ?_, ?_⟩
    · rw [e3, x_set_s, upd_o (by decide)]; exact b4
    · rw [e3, x_set_s, upd_s]
    · rw [e3, x_set_s, upd_o (by decide)]; exact b2
    · rw [e3, x_set_s, upd_o (by decide)]; exact b3
theorem G_Ho_makeRoom_0 {d : Nat} {a1 : Nat} {x2 : Int32} {x3 : Int32} {x4 : Int32} {w : xWd} {Q : xMV → xWd → Prop} (h : xWp (d + 1) m_Jn_bitCount 0 [xI (w 37 4)] [] w (fun a w' => xWp (d + 2) m_Ho_makeRoom 7 [xA 0 37, xA 5 a1, xI x2, xI x3, xI x4, xU, xU, xU, xU, xU] (x_pu a []) w' Q)) : xWp (d + 2) m_Ho_makeRoom 0 [xA 0 37, xA 5 a1, xI x2, xI x3, xI x4, xU, xU, xU, xU, xU] [] w Q := by
  refine x_goN 2 (pc' := 4) (ls' := [xA 0 37, xA 5 a1, xI x2, xI x3, xI x4, xU, xU, xU, xU, xU]) (st' := [xI (w 37 4)]) (w' := w) rfl ?_
  refine x_call (y := m_Jn_bitCount) (as := [xI (w 37 4)]) (rst := []) rfl [xI (w 37 4)] rfl ?_
  exact h
theorem G_Ho_makeRoom_7 {d : Nat} {a1 : Nat} {x2 : Int32} {x3 : Int32} {x4 : Int32} {s0 : Int32} {w : xWd} {Q : xMV → xWd → Prop} (h : ((x3 ≤ s0 → xWp (d + 2) m_Ho_makeRoom 22 [xA 0 37, xA 5 a1, xI x2, xI x3, xI x4, xI (-9), xI 0, xI 0, xU, xU] [] w Q) ∧ (¬ (x3 ≤ s0) → Q xU w))) : xWp (d + 2) m_Ho_makeRoom 7 [xA 0 37, xA 5 a1, xI x2, xI x3, xI x4, xU, xU, xU, xU, xU] [xI s0] w Q := by
  refine x_goN 2 (pc' := if x3 ≤ s0 then 12 else 11) (ls' := [xA 0 37, xA 5 a1, xI x2, xI x3, xI x4, xU, xU, xU, xU, xU]) (st' := []) (w' := w) rfl ?_
  refine x_br (fun c1 => ?_) (fun c1 => ?_)
  · skip
    refine x_goN 6 (pc' := 22) (ls' := [xA 0 37, xA 5 a1, xI x2, xI x3, xI x4, xI (-9), xI 0, xI 0, xU, xU]) (st' := []) (w' := w) rfl ?_
    exact (h.1 c1)
  · skip
    exact x_ret (P := True) rfl trivial (h.2 c1)
theorem G_Ho_makeRoom_22 {d : Nat} {a1 : Nat} {x2 : Int32} {x3 : Int32} {x4 : Int32} {x5 : Int32} {x6 : Int32} {x7 : Int32} {w : xWd} {Q : xMV → xWd → Prop} (h : ((w a1 8 ≤ x7 → ((x5 = (-9) → xWp (d + 2) m_Ho_makeRoom 114 [xA 0 37, xA 5 a1, xI x2, xI x3, xI x4, xI x5, xI x6, xI x7, xU, xU] [] w Q) ∧ (¬ (x5 = (-9)) → ((x6 = 1000 → xWp (d + 1) m_Ho_dropValue 0 [xA 0 37, xI x5, xI 0] [] w (fun a w' => xWp (d + 2) m_Ho_makeRoom 114 [xA 0 37, xA 5 a1, xI x2, xI x3, xI x4, xI x5, xI x6, xI x7, xU, xU] (x_pu a []) w' Q)) ∧ (¬ (x6 = 1000) → xWp (d + 1) m_Ho_dropValue 0 [xA 0 37, xI x5, xI 1] [] w (fun a w' => xWp (d + 2) m_Ho_makeRoom 114 [xA 0 37, xA 5 a1, xI x2, xI x3, xI x4, xI x5, xI x6, xI x7, xU, xU] (x_pu a []) w' Q)))))) ∧ (¬ (w a1 8 ≤ x7) → ((p_in x4 x7 → xWp (d + 1) m_Tr_laterUse 0 [xA 5 a1, xI x7, xI x2, xU, xU, xU] [] w (fun a w' => xWp (d + 2) m_Ho_makeRoom 48 [xA 0 37, xA 5 a1, xI x2, xI x3, xI x4, xI x5, xI x6, xI x7, xU, xU] (x_pu a []) w' Q)) ∧ (¬ (p_in x4 x7) → xWp (d + 2) m_Ho_makeRoom 22 [xA 0 37, xA 5 a1, xI x2, xI x3, xI x4, xI x5, xI x6, xI (x7 + 1), xU, xU] [] w Q))))) : xWp (d + 2) m_Ho_makeRoom 22 [xA 0 37, xA 5 a1, xI x2, xI x3, xI x4, xI x5, xI x6, xI x7, xU, xU] [] w Q := by
  refine x_goN 4 (pc' := if w a1 8 ≤ x7 then 88 else 31) (ls' := [xA 0 37, xA 5 a1, xI x2, xI x3, xI x4, xI x5, xI x6, xI x7, xU, xU]) (st' := []) (w' := w) rfl ?_
  refine x_br (fun c1 => ?_) (fun c1 => ?_)
  · skip
    refine x_goN 3 (pc' := if x5 = (-9) then 114 else 95) (ls' := [xA 0 37, xA 5 a1, xI x2, xI x3, xI x4, xI x5, xI x6, xI x7, xU, xU]) (st' := []) (w' := w) rfl ?_
    refine x_br (fun c2 => ?_) (fun c2 => ?_)
    · skip
      exact ((h.1 c1).1 c2)
    · skip
      refine x_goN 5 (pc' := if x6 = 1000 then 110 else 106) (ls' := [xA 0 37, xA 5 a1, xI x2, xI x3, xI x4, xI x5, xI x6, xI x7, xU, xU]) (st' := [xI x5, xA 0 37]) (w' := w) rfl ?_
      refine x_br (fun c3 => ?_) (fun c3 => ?_)
      · skip
        refine x_goN 1 (pc' := 111) (ls' := [xA 0 37, xA 5 a1, xI x2, xI x3, xI x4, xI x5, xI x6, xI x7, xU, xU]) (st' := [xI 0, xI x5, xA 0 37]) (w' := w) rfl ?_
        refine x_call (y := m_Ho_dropValue) (as := [xA 0 37, xI x5, xI 0]) (rst := []) rfl [xA 0 37, xI x5, xI 0] rfl ?_
        exact (((h.1 c1).2 c2).1 c3)
      · skip
        refine x_goN 2 (pc' := 111) (ls' := [xA 0 37, xA 5 a1, xI x2, xI x3, xI x4, xI x5, xI x6, xI x7, xU, xU]) (st' := [xI 1, xI x5, xA 0 37]) (w' := w) rfl ?_
        refine x_call (y := m_Ho_dropValue) (as := [xA 0 37, xI x5, xI 1]) (rst := []) rfl [xA 0 37, xI x5, xI 1] rfl ?_
        exact (((h.1 c1).2 c2).2 c3)
  · skip
    refine x_goN 2 (pc' := 35) (ls' := [xA 0 37, xA 5 a1, xI x2, xI x3, xI x4, xI x5, xI x6, xI x7, xU, xU]) (st' := [xI x7, xI x4]) (w' := w) rfl ?_
    refine x_call (y := m_Vp_inSet) (as := [xI x4, xI x7]) (rst := []) rfl [xI x4, xI x7] rfl ?_
    refine S_Vp_inSet (fun c4 => ?_) (fun c4 => ?_)
    · skip
      refine x_goN 1 (pc' := if (1 : Int32) = (0 : Int32) then 82 else 41) (ls' := [xA 0 37, xA 5 a1, xI x2, xI x3, xI x4, xI x5, xI x6, xI x7, xU, xU]) (st' := []) (w' := w) rfl ?_
      refine x_brF (by decide) ?_
      refine x_goN 3 (pc' := 45) (ls' := [xA 0 37, xA 5 a1, xI x2, xI x3, xI x4, xI x5, xI x6, xI x7, xU, xU]) (st' := [xI x2, xI x7, xA 5 a1]) (w' := w) rfl ?_
      refine x_call (y := m_Tr_laterUse) (as := [xA 5 a1, xI x7, xI x2]) (rst := []) rfl [xA 5 a1, xI x7, xI x2, xU, xU, xU] rfl ?_
      exact ((h.2 c1).1 c4)
    · skip
      refine x_goN 1 (pc' := if (0 : Int32) = (0 : Int32) then 82 else 41) (ls' := [xA 0 37, xA 5 a1, xI x2, xI x3, xI x4, xI x5, xI x6, xI x7, xU, xU]) (st' := []) (w' := w) rfl ?_
      refine x_brT (by decide) ?_
      refine x_goN 2 (pc' := 22) (ls' := [xA 0 37, xA 5 a1, xI x2, xI x3, xI x4, xI x5, xI x6, xI (x7 + 1), xU, xU]) (st' := []) (w' := w) rfl ?_
      exact ((h.2 c1).2 c4)
theorem G_Ho_makeRoom_48 {d : Nat} {a1 : Nat} {x2 : Int32} {x3 : Int32} {x4 : Int32} {x5 : Int32} {x6 : Int32} {x7 : Int32} {s0 : Int32} {w : xWd} {Q : xMV → xWd → Prop} (h : ((s0 = (-9) → ((1000 < x6 → xWp (d + 2) m_Ho_makeRoom 22 [xA 0 37, xA 5 a1, xI x2, xI x3, xI x4, xI x5, xI x6, xI (x7 + 1), xU, xU] [] w Q) ∧ (¬ (1000 < x6) → xWp (d + 2) m_Ho_makeRoom 22 [xA 0 37, xA 5 a1, xI x2, xI x3, xI x4, xI x7, xI 1000, xI (x7 + 1), xU, xU] [] w Q))) ∧ (¬ (s0 = (-9)) → ((s0 < x6 → xWp (d + 2) m_Ho_makeRoom 22 [xA 0 37, xA 5 a1, xI x2, xI x3, xI x4, xI x5, xI x6, xI (x7 + 1), xU, xU] [] w Q) ∧ (¬ (s0 < x6) → xWp (d + 2) m_Ho_makeRoom 22 [xA 0 37, xA 5 a1, xI x2, xI x3, xI x4, xI x7, xI s0, xI (x7 + 1), xU, xU] [] w Q))))) : xWp (d + 2) m_Ho_makeRoom 48 [xA 0 37, xA 5 a1, xI x2, xI x3, xI x4, xI x5, xI x6, xI x7, xU, xU] [xI s0] w Q := by
  refine x_goN 4 (pc' := if s0 = (-9) then 57 else 63) (ls' := [xA 0 37, xA 5 a1, xI x2, xI x3, xI x4, xI x5, xI x6, xI x7, xI s0, xU]) (st' := []) (w' := w) rfl ?_
  refine x_br (fun c1 => ?_) (fun c1 => ?_)
  · skip
    refine x_goN 6 (pc' := if 1000 < x6 then 82 else 74) (ls' := [xA 0 37, xA 5 a1, xI x2, xI x3, xI x4, xI x5, xI x6, xI x7, xI s0, xI 1000]) (st' := []) (w' := w) rfl ?_
    refine x_br (fun c2 => ?_) (fun c2 => ?_)
    · skip
      refine x_goN 2 (pc' := 22) (ls' := [xA 0 37, xA 5 a1, xI x2, xI x3, xI x4, xI x5, xI x6, xI (x7 + 1), xI s0, xI 1000]) (st' := []) (w' := w) rfl ?_
      exact x_weak (((h.1 c1).1 c2)) ⟨Or.inl rfl, Or.inl rfl, Or.inl rfl, Or.inl rfl, Or.inl rfl, Or.inl rfl, Or.inl rfl, Or.inl rfl, Or.inr ⟨rfl, rfl⟩, Or.inr ⟨rfl, rfl⟩, trivial⟩
    · skip
      refine x_goN 6 (pc' := 22) (ls' := [xA 0 37, xA 5 a1, xI x2, xI x3, xI x4, xI x7, xI 1000, xI (x7 + 1), xI s0, xI 1000]) (st' := []) (w' := w) rfl ?_
      exact x_weak (((h.1 c1).2 c2)) ⟨Or.inl rfl, Or.inl rfl, Or.inl rfl, Or.inl rfl, Or.inl rfl, Or.inl rfl, Or.inl rfl, Or.inl rfl, Or.inr ⟨rfl, rfl⟩, Or.inr ⟨rfl, rfl⟩, trivial⟩
  · skip
    refine x_goN 5 (pc' := if s0 < x6 then 82 else 74) (ls' := [xA 0 37, xA 5 a1, xI x2, xI x3, xI x4, xI x5, xI x6, xI x7, xI s0, xI s0]) (st' := []) (w' := w) rfl ?_
    refine x_br (fun c3 => ?_) (fun c3 => ?_)
    · skip
      refine x_goN 2 (pc' := 22) (ls' := [xA 0 37, xA 5 a1, xI x2, xI x3, xI x4, xI x5, xI x6, xI (x7 + 1), xI s0, xI s0]) (st' := []) (w' := w) rfl ?_
      exact x_weak (((h.2 c1).1 c3)) ⟨Or.inl rfl, Or.inl rfl, Or.inl rfl, Or.inl rfl, Or.inl rfl, Or.inl rfl, Or.inl rfl, Or.inl rfl, Or.inr ⟨rfl, rfl⟩, Or.inr ⟨rfl, rfl⟩, trivial⟩
    · skip
      refine x_goN 6 (pc' := 22) (ls' := [xA 0 37, xA 5 a1, xI x2, xI x3, xI x4, xI x7, xI s0, xI (x7 + 1), xI s0, xI s0]) (st' := []) (w' := w) rfl ?_
      exact x_weak (((h.2 c1).2 c3)) ⟨Or.inl rfl, Or.inl rfl, Or.inl rfl, Or.inl rfl, Or.inl rfl, Or.inl rfl, Or.inl rfl, Or.inl rfl, Or.inr ⟨rfl, rfl⟩, Or.inr ⟨rfl, rfl⟩, trivial⟩
theorem G_Ho_makeRoom_114 {d : Nat} {a1 : Nat} {x2 : Int32} {x3 : Int32} {x4 : Int32} {x5 : Int32} {x6 : Int32} {x7 : Int32} {w : xWd} {Q : xMV → xWd → Prop} (h : Q xU w) : xWp (d + 2) m_Ho_makeRoom 114 [xA 0 37, xA 5 a1, xI x2, xI x3, xI x4, xI x5, xI x6, xI x7, xU, xU] [] w Q := by
  exact x_ret (P := True) rfl trivial h
theorem L_Ho_makeRoom {d t l k c : Nat} {T : xT} {H : xH} {w : xWd} {Q : xMV → xWd → Prop} (hR : tR w t T) (hl : l < tn T) (hc : c < 256) (hH : hC w H) (hm : H.1 < 256) (h : ∀ w', gH w w' → hC w' (h_dr T l c H) → Q xU w') : ∀ m v : Nat, v + m = tn T → xWp (d + 2) m_Ho_makeRoom 22 [xA 0 37, xA 5 t, xI (nI l), xI (nI k), xI (nI c), xI (dI (h_pk T l c v)), xI (lC (h_pk T l c v).2), xI (nI v), xU, xU] [] w Q := by
  have h8 := tR_n8 hR
  intro m
  induction m with
  | zero =>
    intro v hv
    have e : v = tn T := by omega
    subst e
    obtain ⟨p1, p2, -⟩ := h_pk_ok hR.2.1 (l := l) (c := c) (tn T)
    refine G_Ho_makeRoom_22 ⟨fun _ => ⟨fun q => ?_, fun q => ?_⟩, fun c => absurd (tR_end hR) c⟩
    · have e0 : (h_pk T l c (tn T)).2 = 0 := by
        apply Classical.byContradiction
        intro hne
        have := (p2 hne).1
        rw [dI_n hne] at q
        exact z_n9 (n := (h_pk T l c (tn T)).1) (by omega) q.symm
      rw [h_dr_0 e0] at h
      exact G_Ho_makeRoom_114 (h w (fun _ _ => rfl) hH)
    · have hne : (h_pk T l c (tn T)).2 ≠ 0 := fun e0 => q (dI_0 e0)
      have hb := (p2 hne).1
      rw [h_dr_n hne] at h
      rw [dI_n hne]
      refine ⟨fun q9 => ?_, fun q9 => ?_⟩
      · have e9 := (lC_e _ (by omega)).mp q9
        exact S_Ho_dropValue (by omega) hH hm (fun _ => rfl) (fun q => absurd rfl q) (fun w' g' h' => G_Ho_makeRoom_114 (h w' g' (by rw [if_pos e9]; exact h')))
      · have e9 : ¬ (h_pk T l c (tn T)).2 = 9 := fun q => q9 ((lC_e _ (by omega)).mpr q)
        exact S_Ho_dropValue (by omega) hH hm (fun q => absurd q n_10) (fun _ => rfl) (fun w' g' h' => G_Ho_makeRoom_114 (h w' g' (by rw [if_neg e9]; exact h')))
  | succ m ih =>
    intro v hv
    have hlt : v < tn T := by omega
    obtain ⟨p1, p2, -⟩ := h_pk_ok hR.2.1 (l := l) (c := c) v
    have ih' := ih (v + 1) (by omega)
    rw [h_pk_s] at ih'
    refine G_Ho_makeRoom_22 ⟨fun c => absurd c (tR_ge hR hlt), fun _ => ⟨fun q => ?_, fun q => ?_⟩⟩
    · rw [if_pos ((z_bit' hc (by omega)).mp q)] at ih'
      refine S_Tr_laterUse hR (by omega) hl ?_
      have hle := tL_le hR.2.1 (l := l) (v := v)
      refine G_Ho_makeRoom_48 ⟨fun q9 => ?_, fun q9 => ?_⟩
      · have e0 := (luI_9 (by omega)).mp q9
        rw [h_rk0 e0, if_pos p1] at ih'
        refine ⟨fun c => absurd c (lC_9 _ (by omega)), fun _ => ?_⟩
        rw [nI_1]; exact ih'
      · have e0 : tL T l v ≠ 0 := fun q => q9 ((luI_9 (by omega)).mpr q)
        rw [h_rkn e0] at ih'
        rw [luI_p e0, nI_1, lC_lt _ (by omega) _ (by omega)]
        refine ⟨fun c => ?_, fun c => ?_⟩
        · rw [if_neg (by omega)] at ih'; exact ih'
        · rw [if_pos (by omega), dI_n (p := (v, tL T l v)) e0, lC_n (show (v, tL T l v).2 ≠ 9 by show tL T l v ≠ 9; omega)] at ih'
          exact ih'
    · rw [if_neg (fun r => q ((z_bit' hc (by omega)).mpr r))] at ih'
      rw [nI_1]; exact ih'
theorem S_Ho_makeRoom {d t l k c : Nat} {T : xT} {H : xH} {w : xWd} {Q : xMV → xWd → Prop} (hR : tR w t T) (hl : l < tn T) (hc : c < 256) (hk : k ≤ 8) (hH : hC w H) (hm : H.1 < 256) (h : ∀ w', gH w w' → hC w' (h_rm T l k c H) → Q xU w') : xWp (d + 2) m_Ho_makeRoom 0 [xA 0 37, xA 5 t, xI (nI l), xI (nI k), xI (nI c), xU, xU, xU, xU, xU] [] w Q := by
  have hp := z_pc_le H.1
  refine G_Ho_makeRoom_0 (S_Jn_bitCount ?_)
  rw [hH.1, v_bc_ok _ hm]
  refine G_Ho_makeRoom_7 ?_
  rw [z_le (by omega) (by omega)]
  refine ⟨fun q => ?_, fun q => ?_⟩
  · rw [h_rm_y q] at h
    exact L_Ho_makeRoom hR hl hc hH hm h (tn T) 0 (Nat.zero_add _)
  · rw [h_rm_n q] at h
    exact h w (fun _ _ => rfl) hH
theorem G_Ho_passLine_0 {d : Nat} {a1 : Nat} {x2 : Int32} {x3 : Int32} {w : xWd} {Q : xMV → xWd → Prop} (h : xWp (d + 3) m_Ho_passLine 3 [xA 0 37, xA 5 a1, xI x2, xI x3, xI 0, xU] [] w Q) : xWp (d + 3) m_Ho_passLine 0 [xA 0 37, xA 5 a1, xI x2, xI x3, xU, xU] [] w Q := by
  refine x_goN 2 (pc' := 3) (ls' := [xA 0 37, xA 5 a1, xI x2, xI x3, xI 0, xU]) (st' := []) (w' := w) rfl ?_
  exact h
theorem G_Ho_passLine_3 {d : Nat} {T : xT} {a1 : Nat} {x2 : Int32} {x3 : Int32} {x4 : Int32} {w : xWd} {Q : xMV → xWd → Prop} (h : (vp_in x2 8 ∧ ((w (32 * a1 + 5) x2.toNatClampNeg ≤ x4 → xWp (d + 2) m_Tr_usedBelow 0 [xA 5 a1, xI x2, xU, xU] [] w (fun a w' => xWp (d + 3) m_Ho_passLine 94 [xA 0 37, xA 5 a1, xI x2, xI x3, xI x4, xU] (x_pu a [xI (w 37 4), xA 0 37]) w' Q)) ∧ (¬ (w (32 * a1 + 5) x2.toNatClampNeg ≤ x4) → ((tR w a1 T) ∧ ((p_in (w 37 4) (vUs T x2 x4) → xWp (d + 3) m_Ho_passLine 3 [xA 0 37, xA 5 a1, xI x2, xI x3, xI (x4 + 1), xU] [] w Q) ∧ (¬ (p_in (w 37 4) (vUs T x2 x4)) → (vp_in x2 8 ∧ xWp (d + 2) m_Ho_makeRoom 0 [xA 0 37, xA 5 a1, xI x2, xI x3, xI ((w 37 4) &&& ((w (32 * a1 + 7) x2.toNatClampNeg) ^^^ (-1))), xU, xU, xU, xU, xU] [] w (fun a w' => xWp (d + 3) m_Ho_passLine 55 [xA 0 37, xA 5 a1, xI x2, xI x3, xI x4, xI (vUs T x2 x4)] (x_pu a []) w' Q))))))))) : xWp (d + 3) m_Ho_passLine 3 [xA 0 37, xA 5 a1, xI x2, xI x3, xI x4, xU] [] w Q := by
  refine x_goN 4 (pc' := 10) (ls' := [xA 0 37, xA 5 a1, xI x2, xI x3, xI x4, xU]) (st' := [xI x2, xA 108 (32 * a1 + 5), xI x4]) (w' := w) rfl ?_
  refine x_ob (P := vp_in x2 8) (pc' := 11) (ls' := [xA 0 37, xA 5 a1, xI x2, xI x3, xI x4, xU]) (st' := [xI (w (32 * a1 + 5) x2.toNatClampNeg), xI x4]) (w' := w) rfl h.1 ?_
  refine x_goN 1 (pc' := if w (32 * a1 + 5) x2.toNatClampNeg ≤ x4 then 84 else 14) (ls' := [xA 0 37, xA 5 a1, xI x2, xI x3, xI x4, xU]) (st' := []) (w' := w) rfl ?_
  refine x_br (fun c1 => ?_) (fun c1 => ?_)
  · skip
    refine x_goN 5 (pc' := 91) (ls' := [xA 0 37, xA 5 a1, xI x2, xI x3, xI x4, xU]) (st' := [xI x2, xA 5 a1, xI (w 37 4), xA 0 37]) (w' := w) rfl ?_
    refine x_call (y := m_Tr_usedBelow) (as := [xA 5 a1, xI x2]) (rst := [xI (w 37 4), xA 0 37]) rfl [xA 5 a1, xI x2, xU, xU] rfl ?_
    exact (h.2.1 c1)
  · skip
    refine x_goN 3 (pc' := 18) (ls' := [xA 0 37, xA 5 a1, xI x2, xI x3, xI x4, xU]) (st' := [xI x4, xI x2, xA 5 a1]) (w' := w) rfl ?_
    refine x_call (y := m_Tr_usedIn) (as := [xA 5 a1, xI x2, xI x4]) (rst := []) rfl [xA 5 a1, xI x2, xI x4] rfl ?_
    refine S_Tr_usedIn (h.2.2 c1).1 ?_
    refine x_goN 4 (pc' := 29) (ls' := [xA 0 37, xA 5 a1, xI x2, xI x3, xI x4, xI (vUs T x2 x4)]) (st' := [xI (vUs T x2 x4), xI (w 37 4)]) (w' := w) rfl ?_
    refine x_call (y := m_Vp_inSet) (as := [xI (w 37 4), xI (vUs T x2 x4)]) (rst := []) rfl [xI (w 37 4), xI (vUs T x2 x4)] rfl ?_
    refine S_Vp_inSet (fun c2 => ?_) (fun c2 => ?_)
    · skip
      refine x_goN 1 (pc' := if (1 : Int32) = (0 : Int32) then 35 else 78) (ls' := [xA 0 37, xA 5 a1, xI x2, xI x3, xI x4, xI (vUs T x2 x4)]) (st' := []) (w' := w) rfl ?_
      refine x_brF (by decide) ?_
      refine x_goN 2 (pc' := 3) (ls' := [xA 0 37, xA 5 a1, xI x2, xI x3, xI (x4 + 1), xI (vUs T x2 x4)]) (st' := []) (w' := w) rfl ?_
      exact x_weak (((h.2.2 c1).2.1 c2)) ⟨Or.inl rfl, Or.inl rfl, Or.inl rfl, Or.inl rfl, Or.inl rfl, Or.inr ⟨rfl, rfl⟩, trivial⟩
    · skip
      refine x_goN 1 (pc' := if (0 : Int32) = (0 : Int32) then 35 else 78) (ls' := [xA 0 37, xA 5 a1, xI x2, xI x3, xI x4, xI (vUs T x2 x4)]) (st' := []) (w' := w) rfl ?_
      refine x_brT (by decide) ?_
      refine x_goN 9 (pc' := 48) (ls' := [xA 0 37, xA 5 a1, xI x2, xI x3, xI x4, xI (vUs T x2 x4)]) (st' := [xI x2, xA 108 (32 * a1 + 7), xI (w 37 4), xI x3, xI x2, xA 5 a1, xA 0 37]) (w' := w) rfl ?_
      refine x_ob (P := vp_in x2 8) (pc' := 49) (ls' := [xA 0 37, xA 5 a1, xI x2, xI x3, xI x4, xI (vUs T x2 x4)]) (st' := [xI (w (32 * a1 + 7) x2.toNatClampNeg), xI (w 37 4), xI x3, xI x2, xA 5 a1, xA 0 37]) (w' := w) rfl ((h.2.2 c1).2.2 c2).1 ?_
      refine x_goN 3 (pc' := 52) (ls' := [xA 0 37, xA 5 a1, xI x2, xI x3, xI x4, xI (vUs T x2 x4)]) (st' := [xI ((w 37 4) &&& ((w (32 * a1 + 7) x2.toNatClampNeg) ^^^ (-1))), xI x3, xI x2, xA 5 a1, xA 0 37]) (w' := w) rfl ?_
      refine x_call (y := m_Ho_makeRoom) (as := [xA 0 37, xA 5 a1, xI x2, xI x3, xI ((w 37 4) &&& ((w (32 * a1 + 7) x2.toNatClampNeg) ^^^ (-1)))]) (rst := []) rfl [xA 0 37, xA 5 a1, xI x2, xI x3, xI ((w 37 4) &&& ((w (32 * a1 + 7) x2.toNatClampNeg) ^^^ (-1))), xU, xU, xU, xU, xU] rfl ?_
      exact ((h.2.2 c1).2.2 c2).2
theorem G_Ho_passLine_55 {d : Nat} {a1 : Nat} {x2 : Int32} {x3 : Int32} {x4 : Int32} {x5 : Int32} {w : xWd} {Q : xMV → xWd → Prop} (h : (∀ w1 : xWd, w1 = x_set w 37 4 ((w 37 4) ||| ((1 : Int32) <<< (x5 &&& 31))) → (∀ w2 : xWd, w2 = x_set w1 37 2 ((w1 37 2) + 1) → xWp (d + 3) m_Ho_passLine 3 [xA 0 37, xA 5 a1, xI x2, xI x3, xI (x4 + 1), xU] [] w2 Q))) : xWp (d + 3) m_Ho_passLine 55 [xA 0 37, xA 5 a1, xI x2, xI x3, xI x4, xI x5] [] w Q := by
  refine x_goN 7 (pc' := 65) (ls' := [xA 0 37, xA 5 a1, xI x2, xI x3, xI x4, xI x5]) (st' := [xI ((w 37 4) ||| ((1 : Int32) <<< (x5 &&& 31))), xA 0 37]) (w' := w) rfl ?_
  refine x_goW (pc' := 68) (ls' := [xA 0 37, xA 5 a1, xI x2, xI x3, xI x4, xI x5]) (st' := []) (w' := x_set w 37 4 ((w 37 4) ||| ((1 : Int32) <<< (x5 &&& 31)))) rfl (fun w1 ew1 => ?_)
  refine x_goN 5 (pc' := 75) (ls' := [xA 0 37, xA 5 a1, xI x2, xI x3, xI x4, xI x5]) (st' := [xI ((w1 37 2) + 1), xA 0 37]) (w' := w1) rfl ?_
  refine x_goW (pc' := 78) (ls' := [xA 0 37, xA 5 a1, xI x2, xI x3, xI x4, xI x5]) (st' := []) (w' := x_set w1 37 2 ((w1 37 2) + 1)) rfl (fun w2 ew2 => ?_)
  refine x_goN 2 (pc' := 3) (ls' := [xA 0 37, xA 5 a1, xI x2, xI x3, xI (x4 + 1), xI x5]) (st' := []) (w' := w2) rfl ?_
  exact x_weak (((h w1 ew1) w2 ew2)) ⟨Or.inl rfl, Or.inl rfl, Or.inl rfl, Or.inl rfl, Or.inl rfl, Or.inr ⟨rfl, rfl⟩, trivial⟩
theorem G_Ho_passLine_94 {d : Nat} {a1 : Nat} {x2 : Int32} {x3 : Int32} {x4 : Int32} {s2 : Int32} {s1 : Int32} {w : xWd} {Q : xMV → xWd → Prop} (h : (∀ w1 : xWd, w1 = x_set w 37 4 (s1 &&& s2) → xWp (d + 2) m_Ho_makeRoom 0 [xA 0 37, xA 5 a1, xI x2, xI x3, xI (w1 37 4), xU, xU, xU, xU, xU] [] w1 (fun a w' => xWp (d + 3) m_Ho_passLine 109 [xA 0 37, xA 5 a1, xI x2, xI x3, xI x4, xU] (x_pu a []) w' Q))) : xWp (d + 3) m_Ho_passLine 94 [xA 0 37, xA 5 a1, xI x2, xI x3, xI x4, xU] [xI s2, xI s1, xA 0 37] w Q := by
  refine x_goN 1 (pc' := 95) (ls' := [xA 0 37, xA 5 a1, xI x2, xI x3, xI x4, xU]) (st' := [xI (s1 &&& s2), xA 0 37]) (w' := w) rfl ?_
  refine x_goW (pc' := 98) (ls' := [xA 0 37, xA 5 a1, xI x2, xI x3, xI x4, xU]) (st' := []) (w' := x_set w 37 4 (s1 &&& s2)) rfl (fun w1 ew1 => ?_)
  refine x_goN 6 (pc' := 106) (ls' := [xA 0 37, xA 5 a1, xI x2, xI x3, xI x4, xU]) (st' := [xI (w1 37 4), xI x3, xI x2, xA 5 a1, xA 0 37]) (w' := w1) rfl ?_
  refine x_call (y := m_Ho_makeRoom) (as := [xA 0 37, xA 5 a1, xI x2, xI x3, xI (w1 37 4)]) (rst := []) rfl [xA 0 37, xA 5 a1, xI x2, xI x3, xI (w1 37 4), xU, xU, xU, xU, xU] rfl ?_
  exact (h w1 ew1)
theorem G_Ho_passLine_109 {d : Nat} {a1 : Nat} {x2 : Int32} {x3 : Int32} {x4 : Int32} {w : xWd} {Q : xMV → xWd → Prop} (h : (∀ w1 : xWd, w1 = x_set w 37 4 ((w 37 4) ||| ((1 : Int32) <<< (x2 &&& 31))) → Q xU w1)) : xWp (d + 3) m_Ho_passLine 109 [xA 0 37, xA 5 a1, xI x2, xI x3, xI x4, xU] [] w Q := by
  refine x_goN 7 (pc' := 118) (ls' := [xA 0 37, xA 5 a1, xI x2, xI x3, xI x4, xU]) (st' := [xI ((w 37 4) ||| ((1 : Int32) <<< (x2 &&& 31))), xA 0 37]) (w' := w) rfl ?_
  refine x_goW (pc' := 121) (ls' := [xA 0 37, xA 5 a1, xI x2, xI x3, xI x4, xU]) (st' := []) (w' := x_set w 37 4 ((w 37 4) ||| ((1 : Int32) <<< (x2 &&& 31)))) rfl (fun w1 ew1 => ?_)
  exact x_ret (P := True) rfl trivial (h w1 ew1)
theorem L_Ho_passLine {d t l k : Nat} {T : xT} {H0 : xH} {w0 : xWd} {Q : xMV → xWd → Prop} (ht : t = 34 ∨ t = 35) (hR : tR w0 t T) (hl : l < tn T) (hk3 : 3 ≤ k) (hk : k ≤ 8) (h0 : hOk (tn T) k H0.1) (h : ∀ w', gH w0 w' → hC w' (h_ln T l k H0) → Q xU w') : ∀ (m i : Nat) (w : xWd), i + m = tm T l → gH w0 w → hC w (h_us T l k H0 i) → xWp (d + 3) m_Ho_passLine 3 [xA 0 37, xA 5 t, xI (nI l), xI (nI k), xI (nI i), xU] [] w Q := by
  have h8 := tR_n8 hR
  have hm2 := tR_m2 hR hl
  intro m
  induction m with
  | zero =>
    intro i w hi hg hH
    have e : i = tm T l := by omega
    subst e
    have hR' := gH_R ht hR hg
    have hu := h_us_ok hR.2 hl hk3 h0 (tm T l) (Nat.le_refl _)
    refine G_Ho_passLine_3 (T := T) ⟨z_in (by omega) (by decide), fun _ => S_Tr_usedBelow hR' (by omega) ?_, fun c => absurd ?_ c⟩
    · refine G_Ho_passLine_94 (fun w1 e1 => ?_)
      rw [hH.1, fa_and] at e1
      have hg1 : gH w w1 := fun a ha => by rw [e1, x_set_o ha]
      have hH1 : hC w1 (h_be T l (h_us T l k H0 (tm T l))) := by
        refine ⟨?_, ?_, ?_, ?_⟩
        · rw [e1, x_set_s, upd_s]; rfl
        · rw [e1, x_set_s, upd_o (by decide)]; exact hH.2.1
        · rw [e1, x_set_s, upd_o (by decide)]; exact hH.2.2.1
        · rw [e1, x_set_s, upd_o (by decide)]; exact hH.2.2.2
      have hb := h_be_ok (l := l) hu
      rw [hH1.1]
      refine S_Ho_makeRoom (gH_R ht hR' hg1) hl hb.1 hk hH1 hb.1 (fun w2 hg2 hH2 => ?_)
      refine G_Ho_passLine_109 (fun w3 e3 => ?_)
      rw [hH2.1, z_shl l (by omega), fa_or] at e3
      refine h w3 (fun a ha => by rw [e3, x_set_o ha, hg2 a ha, hg1 a ha, hg a ha]) ⟨?_, ?_, ?_, ?_⟩
      · rw [e3, x_set_s, upd_s]; rfl
      · rw [e3, x_set_s, upd_o (by decide)]; exact hH2.2.1
      · rw [e3, x_set_s, upd_o (by decide)]; exact hH2.2.2.1
      · rw [e3, x_set_s, upd_o (by decide)]; exact hH2.2.2.2
    · rw [tC_m hR' hl, z_le (by omega) (by omega)]; exact Nat.le_refl _
  | succ m ih =>
    intro i w hi hg hH
    have hlt : i < tm T l := by omega
    have hR' := gH_R ht hR hg
    have hu := h_us_ok hR.2 hl hk3 h0 i (by omega)
    have hv := tu_lt hR.2 hl hlt
    have step : h_us T l k H0 (i + 1) = h_u1 T l k i (h_us T l k H0 i) := rfl
    refine G_Ho_passLine_3 (T := T) ⟨z_in (by omega) (by decide), fun c => absurd c ?_, fun _ => ⟨hR', ?_⟩⟩
    · rw [tC_m hR' hl, z_le (by omega) (by omega)]; omega
    rw [hH.1, vUs_p h8 hl hlt hm2, nI_1, tC_s hR' hl, z_df_ok hu.1]
    refine ⟨fun c => ?_, fun c => ⟨z_in (by omega) (by decide), ?_⟩⟩
    · have hb := (z_bit' hu.1 hv).mp c
      refine ih (i + 1) w (by omega) hg ?_
      rw [step]; unfold h_u1; rw [if_pos hb]; exact hH
    · have hb := fun q => c ((z_bit' hu.1 hv).mpr q)
      refine S_Ho_makeRoom hR' hl (z_df_lt _ _) hk hH hu.1 (fun w1 hg1 hH1 => ?_)
      refine G_Ho_passLine_55 (fun w2 e2 w3 e3 => ?_)
      rw [hH1.1, z_shl _ (by omega), fa_or] at e2
      have k2 : w2 37 2 = nI (h_rm T l k (z_df (h_us T l k H0 i).1 (tU T l)) (h_us T l k H0 i)).2.2.1 := by rw [e2, x_set_s, upd_o (by decide)]; exact hH1.2.2.1
      rw [k2, nI_1] at e3
      rw [nI_1]
      refine ih (i + 1) w3 (by omega) (fun a ha => by rw [e3, x_set_o ha, e2, x_set_o ha, hg1 a ha, hg a ha]) ?_
      rw [step]; unfold h_u1; rw [if_neg hb]
      refine ⟨?_, ?_, ?_, ?_⟩
      · rw [e3, x_set_s, upd_o (by decide), e2, x_set_s, upd_s]
      · rw [e3, x_set_s, upd_o (by decide), e2, x_set_s, upd_o (by decide)]; exact hH1.2.1
      · rw [e3, x_set_s, upd_s]
      · rw [e3, x_set_s, upd_o (by decide), e2, x_set_s, upd_o (by decide)]; exact hH1.2.2.2
theorem G_Ho_goThrough_0 {d : Nat} {a1 : Nat} {x2 : Int32} {w : xWd} {Q : xMV → xWd → Prop} (h : (∀ w1 : xWd, w1 = x_set w 37 1 0 → (∀ w2 : xWd, w2 = x_set w1 37 2 0 → (∀ w3 : xWd, w3 = x_set w2 37 3 0 → xWp (d + 4) m_Ho_goThrough 17 [xA 0 37, xA 5 a1, xI x2, xI 0, xU] [] w3 Q)))) : xWp (d + 4) m_Ho_goThrough 0 [xA 0 37, xA 5 a1, xI x2, xU, xU] [] w Q := by
  refine x_goN 2 (pc' := 2) (ls' := [xA 0 37, xA 5 a1, xI x2, xU, xU]) (st' := [xI 0, xA 0 37]) (w' := w) rfl ?_
  refine x_goW (pc' := 5) (ls' := [xA 0 37, xA 5 a1, xI x2, xU, xU]) (st' := []) (w' := x_set w 37 1 0) rfl (fun w1 ew1 => ?_)
  refine x_goN 2 (pc' := 7) (ls' := [xA 0 37, xA 5 a1, xI x2, xU, xU]) (st' := [xI 0, xA 0 37]) (w' := w1) rfl ?_
  refine x_goW (pc' := 10) (ls' := [xA 0 37, xA 5 a1, xI x2, xU, xU]) (st' := []) (w' := x_set w1 37 2 0) rfl (fun w2 ew2 => ?_)
  refine x_goN 2 (pc' := 12) (ls' := [xA 0 37, xA 5 a1, xI x2, xU, xU]) (st' := [xI 0, xA 0 37]) (w' := w2) rfl ?_
  refine x_goW (pc' := 15) (ls' := [xA 0 37, xA 5 a1, xI x2, xU, xU]) (st' := []) (w' := x_set w2 37 3 0) rfl (fun w3 ew3 => ?_)
  refine x_goN 2 (pc' := 17) (ls' := [xA 0 37, xA 5 a1, xI x2, xI 0, xU]) (st' := []) (w' := w3) rfl ?_
  exact (((h w1 ew1) w2 ew2) w3 ew3)
theorem G_Ho_goThrough_17 {d : Nat} {a1 : Nat} {x2 : Int32} {x3 : Int32} {w : xWd} {Q : xMV → xWd → Prop} (h : ((w a1 8 ≤ x3 → Q xU w) ∧ (¬ (w a1 8 ≤ x3) → (vp_in x3 8 ∧ ((p_lt (w (32 * a1 + 2) x3.toNatClampNeg) (w a1 8) → (vp_in (w (32 * a1 + 2) x3.toNatClampNeg) 8 ∧ (∀ w1 : xWd, w1 = x_set w 37 4 (w 1185 (w (32 * a1 + 2) x3.toNatClampNeg).toNatClampNeg) → xWp (d + 3) m_Ho_passLine 0 [xA 0 37, xA 5 a1, xI x3, xI x2, xU, xU] [] w1 (fun a w' => xWp (d + 4) m_Ho_goThrough 64 [xA 0 37, xA 5 a1, xI x2, xI x3, xI (w (32 * a1 + 2) x3.toNatClampNeg)] (x_pu a []) w' Q)))) ∧ (¬ (p_lt (w (32 * a1 + 2) x3.toNatClampNeg) (w a1 8)) → (∀ w2 : xWd, w2 = x_set w 37 4 0 → xWp (d + 3) m_Ho_passLine 0 [xA 0 37, xA 5 a1, xI x3, xI x2, xU, xU] [] w2 (fun a w' => xWp (d + 4) m_Ho_goThrough 64 [xA 0 37, xA 5 a1, xI x2, xI x3, xI (w (32 * a1 + 2) x3.toNatClampNeg)] (x_pu a []) w' Q)))))))) : xWp (d + 4) m_Ho_goThrough 17 [xA 0 37, xA 5 a1, xI x2, xI x3, xU] [] w Q := by
  refine x_goN 4 (pc' := if w a1 8 ≤ x3 then 80 else 25) (ls' := [xA 0 37, xA 5 a1, xI x2, xI x3, xU]) (st' := []) (w' := w) rfl ?_
  refine x_br (fun c1 => ?_) (fun c1 => ?_)
  · skip
    exact x_ret (P := True) rfl trivial (h.1 c1)
  · skip
    refine x_goN 3 (pc' := 30) (ls' := [xA 0 37, xA 5 a1, xI x2, xI x3, xU]) (st' := [xI x3, xA 108 (32 * a1 + 2)]) (w' := w) rfl ?_
    refine x_ob (P := vp_in x3 8) (pc' := 31) (ls' := [xA 0 37, xA 5 a1, xI x2, xI x3, xU]) (st' := [xI (w (32 * a1 + 2) x3.toNatClampNeg)]) (w' := w) rfl (h.2 c1).1 ?_
    refine x_goN 4 (pc' := 37) (ls' := [xA 0 37, xA 5 a1, xI x2, xI x3, xI (w (32 * a1 + 2) x3.toNatClampNeg)]) (st' := [xI (w (32 * a1 + 2) x3.toNatClampNeg), xA 5 a1, xA 0 37]) (w' := w) rfl ?_
    refine x_call (y := m_Tr_isLine) (as := [xA 5 a1, xI (w (32 * a1 + 2) x3.toNatClampNeg)]) (rst := [xA 0 37]) rfl [xA 5 a1, xI (w (32 * a1 + 2) x3.toNatClampNeg)] rfl ?_
    refine S_Tr_isLine (fun c2 => ?_) (fun c2 => ?_)
    · skip
      refine x_goN 1 (pc' := if (1 : Int32) = (0 : Int32) then 53 else 43) (ls' := [xA 0 37, xA 5 a1, xI x2, xI x3, xI (w (32 * a1 + 2) x3.toNatClampNeg)]) (st' := [xA 0 37]) (w' := w) rfl ?_
      refine x_brF (by decide) ?_
      refine x_goN 3 (pc' := 49) (ls' := [xA 0 37, xA 5 a1, xI x2, xI x3, xI (w (32 * a1 + 2) x3.toNatClampNeg)]) (st' := [xI (w (32 * a1 + 2) x3.toNatClampNeg), xA 108 1185, xA 0 37]) (w' := w) rfl ?_
      refine x_ob (P := vp_in (w (32 * a1 + 2) x3.toNatClampNeg) 8) (pc' := 50) (ls' := [xA 0 37, xA 5 a1, xI x2, xI x3, xI (w (32 * a1 + 2) x3.toNatClampNeg)]) (st' := [xI (w 1185 (w (32 * a1 + 2) x3.toNatClampNeg).toNatClampNeg), xA 0 37]) (w' := w) rfl ((h.2 c1).2.1 c2).1 ?_
      refine x_goN 1 (pc' := 54) (ls' := [xA 0 37, xA 5 a1, xI x2, xI x3, xI (w (32 * a1 + 2) x3.toNatClampNeg)]) (st' := [xI (w 1185 (w (32 * a1 + 2) x3.toNatClampNeg).toNatClampNeg), xA 0 37]) (w' := w) rfl ?_
      refine x_goW (pc' := 57) (ls' := [xA 0 37, xA 5 a1, xI x2, xI x3, xI (w (32 * a1 + 2) x3.toNatClampNeg)]) (st' := []) (w' := x_set w 37 4 (w 1185 (w (32 * a1 + 2) x3.toNatClampNeg).toNatClampNeg)) rfl (fun w1 ew1 => ?_)
      refine x_goN 4 (pc' := 61) (ls' := [xA 0 37, xA 5 a1, xI x2, xI x3, xI (w (32 * a1 + 2) x3.toNatClampNeg)]) (st' := [xI x2, xI x3, xA 5 a1, xA 0 37]) (w' := w1) rfl ?_
      refine x_call (y := m_Ho_passLine) (as := [xA 0 37, xA 5 a1, xI x3, xI x2]) (rst := []) rfl [xA 0 37, xA 5 a1, xI x3, xI x2, xU, xU] rfl ?_
      exact (((h.2 c1).2.1 c2).2 w1 ew1)
    · skip
      refine x_goN 1 (pc' := if (0 : Int32) = (0 : Int32) then 53 else 43) (ls' := [xA 0 37, xA 5 a1, xI x2, xI x3, xI (w (32 * a1 + 2) x3.toNatClampNeg)]) (st' := [xA 0 37]) (w' := w) rfl ?_
      refine x_brT (by decide) ?_
      refine x_goN 1 (pc' := 54) (ls' := [xA 0 37, xA 5 a1, xI x2, xI x3, xI (w (32 * a1 + 2) x3.toNatClampNeg)]) (st' := [xI 0, xA 0 37]) (w' := w) rfl ?_
      refine x_goW (pc' := 57) (ls' := [xA 0 37, xA 5 a1, xI x2, xI x3, xI (w (32 * a1 + 2) x3.toNatClampNeg)]) (st' := []) (w' := x_set w 37 4 0) rfl (fun w2 ew2 => ?_)
      refine x_goN 4 (pc' := 61) (ls' := [xA 0 37, xA 5 a1, xI x2, xI x3, xI (w (32 * a1 + 2) x3.toNatClampNeg)]) (st' := [xI x2, xI x3, xA 5 a1, xA 0 37]) (w' := w2) rfl ?_
      refine x_call (y := m_Ho_passLine) (as := [xA 0 37, xA 5 a1, xI x3, xI x2]) (rst := []) rfl [xA 0 37, xA 5 a1, xI x3, xI x2, xU, xU] rfl ?_
      exact (((h.2 c1).2.2 c2) w2 ew2)
theorem G_Ho_goThrough_64 {d : Nat} {a1 : Nat} {x2 : Int32} {x3 : Int32} {x4 : Int32} {w : xWd} {Q : xMV → xWd → Prop} (h : (vp_in x3 8 ∧ ∀ w1 : xWd, w1 = x_set w 1185 x3.toNatClampNeg (w 37 4) → xWp (d + 4) m_Ho_goThrough 17 [xA 0 37, xA 5 a1, xI x2, xI (x3 + 1), xU] [] w1 Q)) : xWp (d + 4) m_Ho_goThrough 64 [xA 0 37, xA 5 a1, xI x2, xI x3, xI x4] [] w Q := by
  refine x_goN 5 (pc' := 73) (ls' := [xA 0 37, xA 5 a1, xI x2, xI x3, xI x4]) (st' := [xI (w 37 4), xI x3, xA 108 1185]) (w' := w) rfl ?_
  refine x_obW (P := vp_in x3 8) (pc' := 74) (ls' := [xA 0 37, xA 5 a1, xI x2, xI x3, xI x4]) (st' := []) (w' := x_set w 1185 x3.toNatClampNeg (w 37 4)) rfl h.1 (fun w1 ew1 => ?_)
  refine x_goN 2 (pc' := 17) (ls' := [xA 0 37, xA 5 a1, xI x2, xI (x3 + 1), xI x4]) (st' := []) (w' := w1) rfl ?_
  exact x_weak ((h.2 w1 ew1)) ⟨Or.inl rfl, Or.inl rfl, Or.inl rfl, Or.inl rfl, Or.inr ⟨rfl, rfl⟩, trivial⟩
def gHB (w w' : xWd) : Prop := ∀ a, a ≠ 37 → a ≠ 1185 → w' a = w a
theorem gHB_R {w w' : xWd} {t : Nat} {T : xT} (ht : t = 34 ∨ t = 35) (hR : tR w t T) (h : gHB w w') : tR w' t T := tR_fr hR (h _ (by omega) (by omega)) (fun i hi => h _ (by omega) (by omega))
def hCg (w : xWd) (G : (Nat → Nat) × xH) (l : Nat) : Prop := (w 37 1 = nI G.2.2.1 ∧ w 37 2 = nI G.2.2.2.1 ∧ w 37 3 = nI G.2.2.2.2) ∧ ∀ j, j < l → w 1185 j = nI (G.1 j)
theorem L_Ho_goThrough {d t k : Nat} {T : xT} {w0 : xWd} {Q : xMV → xWd → Prop} (ht : t = 34 ∨ t = 35) (hR : tR w0 t T) (hk3 : 3 ≤ k) (hk : k ≤ 8) (h : ∀ w', gHB w0 w' → hCg w' (h_go T k (tn T)) (tn T) → Q xU w') : ∀ (m l : Nat) (w : xWd), l + m = tn T → gHB w0 w → hCg w (h_go T k l) l → xWp (d + 4) m_Ho_goThrough 17 [xA 0 37, xA 5 t, xI (nI k), xI (nI l), xU] [] w Q := by
  have h8 := tR_n8 hR
  intro m
  induction m with
  | zero =>
    intro l w hl hg hG
    have e : l = tn T := by omega
    subst e
    exact G_Ho_goThrough_17 ⟨fun _ => h w hg hG, fun c => absurd (tR_end (gHB_R ht hR hg)) c⟩
  | succ m ih =>
    intro l w hl hg hG
    have hlt : l < tn T := by omega
    have hR' := gHB_R ht hR hg
    have hin := h_in_ok hR.2 (k := k) (l := l) hk3 (by omega)
    have fin : ∀ (w1 : xWd) (x4 : Int32), w1 = x_set w 37 4 (nI (h_in T k l).1) → xWp (d + 3) m_Ho_passLine 0 [xA 0 37, xA 5 t, xI (nI l), xI (nI k), xU, xU] [] w1 (fun a w' => xWp (d + 4) m_Ho_goThrough 64 [xA 0 37, xA 5 t, xI (nI k), xI (nI l), xI x4] (x_pu a []) w' Q) := by
      intro w1 x4 e1
      have hg1 : gH w w1 := fun a ha => by rw [e1, x_set_o ha]
      have hH1 : hC w1 (h_in T k l) := by
        refine ⟨by rw [e1, x_set_s, upd_s], ?_, ?_, ?_⟩
        · rw [e1, x_set_s, upd_o (by decide)]; exact hG.1.1
        · rw [e1, x_set_s, upd_o (by decide)]; exact hG.1.2.1
        · rw [e1, x_set_s, upd_o (by decide)]; exact hG.1.2.2
      refine G_Ho_passLine_0 (L_Ho_passLine ht (gH_R ht hR' hg1) hlt hk3 hk hin (fun w2 hg2 hH2 => ?_) (tm T l) 0 w1 (Nat.zero_add _) (fun _ _ => rfl) hH1)
      refine G_Ho_goThrough_64 ⟨z_in (by omega) (by decide), fun w3 e3 => ?_⟩
      rw [z_cl' (by omega), hH2.1] at e3
      rw [nI_1]
      refine ih (l + 1) w3 (by omega) (fun a a1 a2 => by rw [e3, x_set_o a2, hg2 a a1, hg1 a a1]; exact hg a a1 a2) ?_
      rw [h_go_s]
      refine ⟨⟨?_, ?_, ?_⟩, fun j hj => ?_⟩
      · rw [e3, x_set_o (by decide)]; exact hH2.2.1
      · rw [e3, x_set_o (by decide)]; exact hH2.2.2.1
      · rw [e3, x_set_o (by decide)]; exact hH2.2.2.2
      · show w3 1185 j = nI (if j = l then (h_ln T l k (h_in T k l)).1 else (h_go T k l).1 j)
        rw [e3, x_set_s]
        by_cases e : j = l
        · rw [if_pos e, e, upd_s]
        · rw [if_neg e, upd_o e, hg2 1185 (by decide), hg1 1185 (by decide)]
          exact hG.2 j (by omega)
    refine G_Ho_goThrough_17 ⟨fun c => absurd c (tR_ge hR' hlt), fun _ => ⟨z_in (by omega) (by decide), ?_⟩⟩
    rw [tC_a hR' hlt]
    by_cases e0 : l = 0
    · have ha8 : ta T l = 8 := (hR.2.1.2 l hlt).1 e0
      refine ⟨fun c => ?_, fun _ w1 e1 => fin w1 _ ?_⟩
      · obtain ⟨j, hj, e⟩ := tR_ln hR' c
        have := (z_eq (by omega) (by omega)).mp e
        omega
      · have : (h_in T k l).1 = 0 := by
          show (if ta T l < 8 then (h_go T k l).1 (ta T l) else 0) = 0
          rw [if_neg (by omega)]
        rw [this]; exact e1
    · have hal := (hR.2.1.2 l hlt).2 (by omega)
      refine ⟨fun _ => ⟨z_in (by omega) (by decide), fun w1 e1 => fin w1 _ ?_⟩, fun c => absurd (tR_lt hR' (show ta T l < tn T by omega)) c⟩
      have : (h_in T k l).1 = (h_go T k l).1 (ta T l) := by
        show (if ta T l < 8 then (h_go T k l).1 (ta T l) else 0) = _
        rw [if_pos (by omega)]
      rw [this, ← hG.2 (ta T l) hal]
      rw [z_cl' (by omega)] at e1
      exact e1
theorem S_Ho_goThrough {d t k : Nat} {T : xT} {w : xWd} {Q : xMV → xWd → Prop} (ht : t = 34 ∨ t = 35) (hR : tR w t T) (hk3 : 3 ≤ k) (hk : k ≤ 8) (h : ∀ w', gHB w w' → hCg w' (h_go T k (tn T)) (tn T) → Q xU w') : xWp (d + 4) m_Ho_goThrough 0 [xA 0 37, xA 5 t, xI (nI k), xU, xU] [] w Q := by
  refine G_Ho_goThrough_0 (fun w1 e1 w2 e2 w3 e3 => ?_)
  refine L_Ho_goThrough ht hR hk3 hk h (tn T) 0 w3 (Nat.zero_add _) (fun a a1 a2 => by rw [e3, x_set_o a1, e2, x_set_o a1, e1, x_set_o a1]) ⟨⟨?_, ?_, ?_⟩, fun j hj => absurd hj (Nat.not_lt_zero _)⟩
  · rw [e3, x_set_s, upd_o (by decide), e2, x_set_s, upd_o (by decide), e1, x_set_s, upd_s]; rfl
  · rw [e3, x_set_s, upd_o (by decide), e2, x_set_s, upd_s]; rfl
  · rw [e3, x_set_s, upd_s]; rfl

