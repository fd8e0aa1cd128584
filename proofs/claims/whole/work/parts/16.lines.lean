/-! THE CLASS'S LINES: what its tree tells -/
def tR (w : xWd) (t : Nat) (T : xT) : Prop := tC w t T ∧ tW T
theorem tR_n8 {w : xWd} {t : Nat} {T : xT} (h : tR w t T) : tn T ≤ 8 := h.2.1.1
theorem tR_ln {w : xWd} {t : Nat} {T : xT} {x : Int32} (h : tR w t T) (c : p_lt x (w t 8)) : ∃ j, j < tn T ∧ x = nI j := by
  have h8 := tR_n8 h
  unfold p_lt at c
  rw [h.1.1, nI_toInt (by omega)] at c
  obtain ⟨j, e1, e2, -⟩ := z_of c.1
  exact ⟨j, by omega, e1⟩
theorem tR_lt {w : xWd} {t j : Nat} {T : xT} (h : tR w t T) (hj : j < tn T) : p_lt (nI j) (w t 8) := by
  have h8 := tR_n8 h
  unfold p_lt
  rw [h.1.1, nI_toInt (by omega), nI_toInt (by omega)]
  omega
section TC
variable {w : xWd} {t l v : Nat} {T : xT}
theorem tC_k (h : tR w t T) (hl : l < tn T) : w (32 * t + 1) (nI l).toNatClampNeg = nI (tk T l) := by
  rw [z_cl' (by have := tR_n8 h; omega)]; exact (h.1.2 l hl).1
theorem tC_a (h : tR w t T) (hl : l < tn T) : w (32 * t + 2) (nI l).toNatClampNeg = nI (ta T l) := by
  rw [z_cl' (by have := tR_n8 h; omega)]; exact (h.1.2 l hl).2.1
theorem tC_o (h : tR w t T) (hl : l < tn T) : w (32 * t + 3) (nI l).toNatClampNeg = nI (tO T l) := by
  rw [z_cl' (by have := tR_n8 h; omega)]; exact (h.1.2 l hl).2.2.1
theorem tC_d (h : tR w t T) (hl : l < tn T) : w (32 * t + 4) (nI l).toNatClampNeg = nI (td T l) := by
  rw [z_cl' (by have := tR_n8 h; omega)]; exact (h.1.2 l hl).2.2.2.1
theorem tC_m (h : tR w t T) (hl : l < tn T) : w (32 * t + 5) (nI l).toNatClampNeg = nI (tm T l) := by
  rw [z_cl' (by have := tR_n8 h; omega)]; exact (h.1.2 l hl).2.2.2.2.1
theorem tC_s (h : tR w t T) (hl : l < tn T) : w (32 * t + 7) (nI l).toNatClampNeg = nI (tU T l) := by
  rw [z_cl' (by have := tR_n8 h; omega)]; exact (h.1.2 l hl).2.2.2.2.2.2
theorem tC_u (h : tR w t T) (hl : l < tn T) {i : Nat} (hi : i < tm T l) : w (32 * t + 6) (2 * l + i) = nI (tu T (2 * l + i)) := (h.1.2 l hl).2.2.2.2.2.1 i hi
theorem tC_op (h : tR w t T) (hl : l < tn T) (hv : v < 8) : p_in (w (32 * t + 3) (nI l).toNatClampNeg) (nI v) ↔ tb T l v = true := by
  unfold p_in; rw [tC_o h hl, z_bit' (tO_lt T l) hv, tO_tb T l hv]
theorem tC_sp (h : tR w t T) (hl : l < tn T) (hv : v < 8) : p_in (w (32 * t + 7) (nI l).toNatClampNeg) (nI v) ↔ tr T l v = true := by
  unfold p_in; rw [tC_s h hl, z_bit' (tU_lt T l) hv, tU_tb T l hv]
theorem tR_ge (h : tR w t T) (hl : l < tn T) : ¬ w t 8 ≤ nI l := by
  have h8 := tR_n8 h
  rw [h.1.1, z_le (by omega) (by omega)]; omega
theorem tR_end (h : tR w t T) : w t 8 ≤ nI (tn T) := by
  have h8 := tR_n8 h
  rw [h.1.1, z_le (by omega) (by omega)]; omega
theorem tR_m2 (h : tR w t T) (hl : l < tn T) : tm T l ≤ 2 := (h.2.2 l hl).2.1
end TC
/-- line l has a place i -/
def pP (T : xT) (l i : Int32) : Prop := ∃ a b : Nat, l = nI a ∧ i = nI b ∧ a < tn T ∧ b < tm T a
def pB (T : xT) (l v : Int32) : Prop := ∃ a b : Nat, l = nI a ∧ v = nI b ∧ a < tn T ∧ b < tn T ∧ tb T a b = true
def pU (T : xT) (l i v : Int32) : Prop := ∃ a b c : Nat, l = nI a ∧ i = nI b ∧ v = nI c ∧ a < tn T ∧ b < tm T a ∧ c < tn T ∧ tb T a c = true ∧ (tm T a = 2 → tu T (2 * a + (1 - b)) ≠ c)
noncomputable def vUs (T : xT) (l i : Int32) : Int32 := @ite Int32 (pP T l i) (Classical.propDecidable _) (nI (tu T (2 * l.toNatClampNeg + i.toNatClampNeg))) (-9)
theorem vUs_p {T : xT} (h8 : tn T ≤ 8) {a b : Nat} (ha : a < tn T) (hb : b < tm T a) (hm : tm T a ≤ 2) : vUs T (nI a) (nI b) = nI (tu T (2 * a + b)) := by
  unfold vUs
  rw [if_pos ⟨a, b, rfl, rfl, ha, hb⟩, z_cl' (by omega), z_cl' (by omega)]
theorem vUs_n {T : xT} {l i : Int32} (h : ¬ pP T l i) : vUs T l i = -9 := by
  unfold vUs; rw [if_neg h]
theorem z_n9 {n : Nat} (h : n < 2 ^ 31) : ¬ (-9 : Int32) = nI n := by
  rw [fa_eq, nI_toInt h]
  have : (-9 : Int32).toInt = -9 := rfl
  omega
theorem G_Tr_hasPlace_0 {d : Nat} {a0 : Nat} {x1 : Int32} {x2 : Int32} {w : xWd} {Q : xMV → xWd → Prop} (h : ((p_lt x1 (w a0 8) → ((x2 < 0 → Q (xI 0) w) ∧ (¬ (x2 < 0) → (vp_in x1 8 ∧ ((w (32 * a0 + 5) x1.toNatClampNeg ≤ x2 → Q (xI 0) w) ∧ (¬ (w (32 * a0 + 5) x1.toNatClampNeg ≤ x2) → Q (xI 1) w)))))) ∧ (¬ (p_lt x1 (w a0 8)) → Q (xI 0) w))) : xWp (d + 1) m_Tr_hasPlace 0 [xA 5 a0, xI x1, xI x2] [] w Q := by
  refine x_goN 2 (pc' := 2) (ls' := [xA 5 a0, xI x1, xI x2]) (st' := [xI x1, xA 5 a0]) (w' := w) rfl ?_
  refine x_call (y := m_Tr_isLine) (as := [xA 5 a0, xI x1]) (rst := []) rfl [xA 5 a0, xI x1] rfl ?_
  refine S_Tr_isLine (fun c1 => ?_) (fun c1 => ?_)
  · skip
    refine x_goN 1 (pc' := if (1 : Int32) = (0 : Int32) then 26 else 8) (ls' := [xA 5 a0, xI x1, xI x2]) (st' := []) (w' := w) rfl ?_
    refine x_brF (by decide) ?_
    refine x_goN 2 (pc' := if x2 < 0 then 26 else 12) (ls' := [xA 5 a0, xI x1, xI x2]) (st' := []) (w' := w) rfl ?_
    refine x_br (fun c2 => ?_) (fun c2 => ?_)
    · skip
      refine x_goN 1 (pc' := 27) (ls' := [xA 5 a0, xI x1, xI x2]) (st' := [xI 0]) (w' := w) rfl ?_
      exact x_ret (P := (0 : Int32) = 0 ∨ (0 : Int32) = 1) rfl (by decide) ((h.1 c1).1 c2)
    · skip
      refine x_goN 4 (pc' := 18) (ls' := [xA 5 a0, xI x1, xI x2]) (st' := [xI x1, xA 108 (32 * a0 + 5), xI x2]) (w' := w) rfl ?_
      refine x_ob (P := vp_in x1 8) (pc' := 19) (ls' := [xA 5 a0, xI x1, xI x2]) (st' := [xI (w (32 * a0 + 5) x1.toNatClampNeg), xI x2]) (w' := w) rfl ((h.1 c1).2 c2).1 ?_
      refine x_goN 1 (pc' := if w (32 * a0 + 5) x1.toNatClampNeg ≤ x2 then 26 else 22) (ls' := [xA 5 a0, xI x1, xI x2]) (st' := []) (w' := w) rfl ?_
      refine x_br (fun c3 => ?_) (fun c3 => ?_)
      · skip
        refine x_goN 1 (pc' := 27) (ls' := [xA 5 a0, xI x1, xI x2]) (st' := [xI 0]) (w' := w) rfl ?_
        exact x_ret (P := (0 : Int32) = 0 ∨ (0 : Int32) = 1) rfl (by decide) (((h.1 c1).2 c2).2.1 c3)
      · skip
        refine x_goN 2 (pc' := 27) (ls' := [xA 5 a0, xI x1, xI x2]) (st' := [xI 1]) (w' := w) rfl ?_
        exact x_ret (P := (1 : Int32) = 0 ∨ (1 : Int32) = 1) rfl (by decide) (((h.1 c1).2 c2).2.2 c3)
  · skip
    refine x_goN 1 (pc' := if (0 : Int32) = (0 : Int32) then 26 else 8) (ls' := [xA 5 a0, xI x1, xI x2]) (st' := []) (w' := w) rfl ?_
    refine x_brT (by decide) ?_
    refine x_goN 1 (pc' := 27) (ls' := [xA 5 a0, xI x1, xI x2]) (st' := [xI 0]) (w' := w) rfl ?_
    exact x_ret (P := (0 : Int32) = 0 ∨ (0 : Int32) = 1) rfl (by decide) (h.2 c1)
theorem S_Tr_hasPlace {d t : Nat} {T : xT} {l i : Int32} {w : xWd} {Q : xMV → xWd → Prop} (hR : tR w t T) (h1 : pP T l i → Q (xI 1) w) (h2 : ¬ pP T l i → Q (xI 0) w) : xWp (d + 1) m_Tr_hasPlace 0 [xA 5 t, xI l, xI i] [] w Q := by
  have h8 := tR_n8 hR
  refine G_Tr_hasPlace_0 ⟨fun c => ?_, fun c => h2 (fun ⟨a, b, e1, e2, ha, hb⟩ => c (by rw [e1]; exact tR_lt hR ha))⟩
  obtain ⟨a, ha, rfl⟩ := tR_ln hR c
  have hm := tR_m2 hR ha
  refine ⟨fun c2 => h2 (fun ⟨a', b, e1, e2, ha', hb⟩ => ?_), fun c2 => ⟨z_in (by omega) (by decide), fun c3 => h2 (fun ⟨a', b, e1, e2, ha', hb⟩ => ?_), fun c3 => h1 ?_⟩⟩
  · have e := (z_eq (by omega) (by omega)).mp e1
    subst e
    rw [e2] at c2
    exact z_neg (by omega) c2
  · have e := (z_eq (by omega) (by omega)).mp e1
    subst e
    rw [tC_m hR ha, e2, z_le (by omega) (by omega)] at c3
    omega
  · obtain ⟨b, hb, rfl⟩ := nI_of c2
    rw [tC_m hR ha, z_le (by omega) hb] at c3
    exact ⟨a, b, rfl, rfl, ha, by omega⟩
theorem G_Tr_isBelow_0 {d : Nat} {a0 : Nat} {x1 : Int32} {x2 : Int32} {w : xWd} {Q : xMV → xWd → Prop} (h : ((p_lt x1 (w a0 8) → ((p_lt x2 (w a0 8) → (vp_in x1 8 ∧ ((p_in (w (32 * a0 + 3) x1.toNatClampNeg) x2 → Q (xI 1) w) ∧ (¬ (p_in (w (32 * a0 + 3) x1.toNatClampNeg) x2) → Q (xI 0) w)))) ∧ (¬ (p_lt x2 (w a0 8)) → Q (xI 0) w))) ∧ (¬ (p_lt x1 (w a0 8)) → Q (xI 0) w))) : xWp (d + 1) m_Tr_isBelow 0 [xA 5 a0, xI x1, xI x2] [] w Q := by
  refine x_goN 2 (pc' := 2) (ls' := [xA 5 a0, xI x1, xI x2]) (st' := [xI x1, xA 5 a0]) (w' := w) rfl ?_
  refine x_call (y := m_Tr_isLine) (as := [xA 5 a0, xI x1]) (rst := []) rfl [xA 5 a0, xI x1] rfl ?_
  refine S_Tr_isLine (fun c1 => ?_) (fun c1 => ?_)
  · skip
    refine x_goN 1 (pc' := if (1 : Int32) = (0 : Int32) then 33 else 8) (ls' := [xA 5 a0, xI x1, xI x2]) (st' := []) (w' := w) rfl ?_
    refine x_brF (by decide) ?_
    refine x_goN 2 (pc' := 10) (ls' := [xA 5 a0, xI x1, xI x2]) (st' := [xI x2, xA 5 a0]) (w' := w) rfl ?_
    refine x_call (y := m_Tr_isLine) (as := [xA 5 a0, xI x2]) (rst := []) rfl [xA 5 a0, xI x2] rfl ?_
    refine S_Tr_isLine (fun c2 => ?_) (fun c2 => ?_)
    · skip
      refine x_goN 1 (pc' := if (1 : Int32) = (0 : Int32) then 33 else 16) (ls' := [xA 5 a0, xI x1, xI x2]) (st' := []) (w' := w) rfl ?_
      refine x_brF (by decide) ?_
      refine x_goN 3 (pc' := 21) (ls' := [xA 5 a0, xI x1, xI x2]) (st' := [xI x1, xA 108 (32 * a0 + 3)]) (w' := w) rfl ?_
      refine x_ob (P := vp_in x1 8) (pc' := 22) (ls' := [xA 5 a0, xI x1, xI x2]) (st' := [xI (w (32 * a0 + 3) x1.toNatClampNeg)]) (w' := w) rfl ((h.1 c1).1 c2).1 ?_
      refine x_goN 1 (pc' := 23) (ls' := [xA 5 a0, xI x1, xI x2]) (st' := [xI x2, xI (w (32 * a0 + 3) x1.toNatClampNeg)]) (w' := w) rfl ?_
      refine x_call (y := m_Vp_inSet) (as := [xI (w (32 * a0 + 3) x1.toNatClampNeg), xI x2]) (rst := []) rfl [xI (w (32 * a0 + 3) x1.toNatClampNeg), xI x2] rfl ?_
      refine S_Vp_inSet (fun c3 => ?_) (fun c3 => ?_)
      · skip
        refine x_goN 1 (pc' := if (1 : Int32) = (0 : Int32) then 33 else 29) (ls' := [xA 5 a0, xI x1, xI x2]) (st' := []) (w' := w) rfl ?_
        refine x_brF (by decide) ?_
        refine x_goN 2 (pc' := 34) (ls' := [xA 5 a0, xI x1, xI x2]) (st' := [xI 1]) (w' := w) rfl ?_
        exact x_ret (P := (1 : Int32) = 0 ∨ (1 : Int32) = 1) rfl (by decide) (((h.1 c1).1 c2).2.1 c3)
      · skip
        refine x_goN 1 (pc' := if (0 : Int32) = (0 : Int32) then 33 else 29) (ls' := [xA 5 a0, xI x1, xI x2]) (st' := []) (w' := w) rfl ?_
        refine x_brT (by decide) ?_
        refine x_goN 1 (pc' := 34) (ls' := [xA 5 a0, xI x1, xI x2]) (st' := [xI 0]) (w' := w) rfl ?_
        exact x_ret (P := (0 : Int32) = 0 ∨ (0 : Int32) = 1) rfl (by decide) (((h.1 c1).1 c2).2.2 c3)
    · skip
      refine x_goN 1 (pc' := if (0 : Int32) = (0 : Int32) then 33 else 16) (ls' := [xA 5 a0, xI x1, xI x2]) (st' := []) (w' := w) rfl ?_
      refine x_brT (by decide) ?_
      refine x_goN 1 (pc' := 34) (ls' := [xA 5 a0, xI x1, xI x2]) (st' := [xI 0]) (w' := w) rfl ?_
      exact x_ret (P := (0 : Int32) = 0 ∨ (0 : Int32) = 1) rfl (by decide) ((h.1 c1).2 c2)
  · skip
    refine x_goN 1 (pc' := if (0 : Int32) = (0 : Int32) then 33 else 8) (ls' := [xA 5 a0, xI x1, xI x2]) (st' := []) (w' := w) rfl ?_
    refine x_brT (by decide) ?_
    refine x_goN 1 (pc' := 34) (ls' := [xA 5 a0, xI x1, xI x2]) (st' := [xI 0]) (w' := w) rfl ?_
    exact x_ret (P := (0 : Int32) = 0 ∨ (0 : Int32) = 1) rfl (by decide) (h.2 c1)
theorem S_Tr_isBelow {d t : Nat} {T : xT} {l v : Int32} {w : xWd} {Q : xMV → xWd → Prop} (hR : tR w t T) (h1 : pB T l v → Q (xI 1) w) (h2 : ¬ pB T l v → Q (xI 0) w) : xWp (d + 1) m_Tr_isBelow 0 [xA 5 t, xI l, xI v] [] w Q := by
  have h8 := tR_n8 hR
  refine G_Tr_isBelow_0 ⟨fun c => ⟨fun c2 => ?_, fun c2 => h2 (fun ⟨a, b, e1, e2, ha, hb, _⟩ => c2 (by rw [e2]; exact tR_lt hR hb))⟩, fun c => h2 (fun ⟨a, b, e1, e2, ha, hb, _⟩ => c (by rw [e1]; exact tR_lt hR ha))⟩
  obtain ⟨a, ha, rfl⟩ := tR_ln hR c
  obtain ⟨b, hb, rfl⟩ := tR_ln hR c2
  refine ⟨z_in (by omega) (by decide), fun c3 => h1 ⟨a, b, rfl, rfl, ha, hb, (tC_op hR ha (by omega)).mp c3⟩, fun c3 => h2 (fun ⟨a', b', e1, e2, ha', hb', hh⟩ => c3 ?_)⟩
  have e := (z_eq (by omega) (by omega)).mp e1
  have e' := (z_eq (by omega) (by omega)).mp e2
  subst e; subst e'
  exact (tC_op hR ha (by omega)).mpr hh
theorem G_Tr_usedIn_0 {d : Nat} {T : xT} {a0 : Nat} {x1 : Int32} {x2 : Int32} {w : xWd} {Q : xMV → xWd → Prop} (h : ((tR w a0 T) ∧ ((pP T x1 x2 → (vp_in ((x1 * 2) + x2) 16 ∧ Q (xI (w (32 * a0 + 6) ((x1 * 2) + x2).toNatClampNeg)) w)) ∧ (¬ (pP T x1 x2) → Q (xI (-9)) w)))) : xWp (d + 2) m_Tr_usedIn 0 [xA 5 a0, xI x1, xI x2] [] w Q := by
  refine x_goN 3 (pc' := 3) (ls' := [xA 5 a0, xI x1, xI x2]) (st' := [xI x2, xI x1, xA 5 a0]) (w' := w) rfl ?_
  refine x_call (y := m_Tr_hasPlace) (as := [xA 5 a0, xI x1, xI x2]) (rst := []) rfl [xA 5 a0, xI x1, xI x2] rfl ?_
  refine S_Tr_hasPlace h.1 (fun c1 => ?_) (fun c1 => ?_)
  · skip
    refine x_goN 1 (pc' := if (1 : Int32) = (0 : Int32) then 22 else 9) (ls' := [xA 5 a0, xI x1, xI x2]) (st' := []) (w' := w) rfl ?_
    refine x_brF (by decide) ?_
    refine x_goN 7 (pc' := 18) (ls' := [xA 5 a0, xI x1, xI x2]) (st' := [xI ((x1 * 2) + x2), xA 116 (32 * a0 + 6)]) (w' := w) rfl ?_
    refine x_ob (P := vp_in ((x1 * 2) + x2) 16) (pc' := 19) (ls' := [xA 5 a0, xI x1, xI x2]) (st' := [xI (w (32 * a0 + 6) ((x1 * 2) + x2).toNatClampNeg)]) (w' := w) rfl (h.2.1 c1).1 ?_
    refine x_goN 1 (pc' := 24) (ls' := [xA 5 a0, xI x1, xI x2]) (st' := [xI (w (32 * a0 + 6) ((x1 * 2) + x2).toNatClampNeg)]) (w' := w) rfl ?_
    exact x_ret (P := True) rfl trivial (h.2.1 c1).2
  · skip
    refine x_goN 1 (pc' := if (0 : Int32) = (0 : Int32) then 22 else 9) (ls' := [xA 5 a0, xI x1, xI x2]) (st' := []) (w' := w) rfl ?_
    refine x_brT (by decide) ?_
    refine x_goN 1 (pc' := 24) (ls' := [xA 5 a0, xI x1, xI x2]) (st' := [xI (-9)]) (w' := w) rfl ?_
    exact x_ret (P := True) rfl trivial (h.2.2 c1)
theorem S_Tr_usedIn {d t : Nat} {T : xT} {l i : Int32} {w : xWd} {Q : xMV → xWd → Prop} (hR : tR w t T) (h : Q (xI (vUs T l i)) w) : xWp (d + 2) m_Tr_usedIn 0 [xA 5 t, xI l, xI i] [] w Q := by
  have h8 := tR_n8 hR
  refine G_Tr_usedIn_0 ⟨hR, fun c => ?_, fun c => by rw [vUs_n c] at h; exact h⟩
  obtain ⟨a, b, rfl, rfl, ha, hb⟩ := c
  have hm := tR_m2 hR ha
  have e : nI a * 2 + nI b = nI (2 * a + b) := by
    rw [show nI a * 2 = nI (a * 2) from pk_mul a 2, nI_add, Nat.mul_comm]
  rw [e, z_cl' (by omega), tC_u hR ha hb]
  rw [vUs_p h8 ha hb hm] at h
  exact ⟨z_in (by omega) (by decide), h⟩
theorem G_Tr_mayUse_0 {d : Nat} {T : xT} {a0 : Nat} {x1 : Int32} {x2 : Int32} {x3 : Int32} {w : xWd} {Q : xMV → xWd → Prop} (h : ((tR w a0 T) ∧ ((pP T x1 x2 → ((tR w a0 T) ∧ ((pB T x1 x3 → ((tR w a0 T) ∧ ((vUs T x1 (1 - x2) = x3 → Q (xI 0) w) ∧ (¬ (vUs T x1 (1 - x2) = x3) → Q (xI 1) w)))) ∧ (¬ (pB T x1 x3) → Q (xI 0) w)))) ∧ (¬ (pP T x1 x2) → Q (xI 0) w)))) : xWp (d + 3) m_Tr_mayUse 0 [xA 5 a0, xI x1, xI x2, xI x3] [] w Q := by
  refine x_goN 3 (pc' := 3) (ls' := [xA 5 a0, xI x1, xI x2, xI x3]) (st' := [xI x2, xI x1, xA 5 a0]) (w' := w) rfl ?_
  refine x_call (y := m_Tr_hasPlace) (as := [xA 5 a0, xI x1, xI x2]) (rst := []) rfl [xA 5 a0, xI x1, xI x2] rfl ?_
  refine S_Tr_hasPlace h.1 (fun c1 => ?_) (fun c1 => ?_)
  · skip
    refine x_goN 1 (pc' := if (1 : Int32) = (0 : Int32) then 34 else 9) (ls' := [xA 5 a0, xI x1, xI x2, xI x3]) (st' := []) (w' := w) rfl ?_
    refine x_brF (by decide) ?_
    refine x_goN 3 (pc' := 12) (ls' := [xA 5 a0, xI x1, xI x2, xI x3]) (st' := [xI x3, xI x1, xA 5 a0]) (w' := w) rfl ?_
    refine x_call (y := m_Tr_isBelow) (as := [xA 5 a0, xI x1, xI x3]) (rst := []) rfl [xA 5 a0, xI x1, xI x3] rfl ?_
    refine S_Tr_isBelow (h.2.1 c1).1 (fun c2 => ?_) (fun c2 => ?_)
    · skip
      refine x_goN 1 (pc' := if (1 : Int32) = (0 : Int32) then 34 else 18) (ls' := [xA 5 a0, xI x1, xI x2, xI x3]) (st' := []) (w' := w) rfl ?_
      refine x_brF (by decide) ?_
      refine x_goN 5 (pc' := 23) (ls' := [xA 5 a0, xI x1, xI x2, xI x3]) (st' := [xI (1 - x2), xI x1, xA 5 a0]) (w' := w) rfl ?_
      refine x_call (y := m_Tr_usedIn) (as := [xA 5 a0, xI x1, xI (1 - x2)]) (rst := []) rfl [xA 5 a0, xI x1, xI (1 - x2)] rfl ?_
      refine S_Tr_usedIn ((h.2.1 c1).2.1 c2).1 ?_
      refine x_goN 2 (pc' := if vUs T x1 (1 - x2) = x3 then 34 else 30) (ls' := [xA 5 a0, xI x1, xI x2, xI x3]) (st' := []) (w' := w) rfl ?_
      refine x_br (fun c3 => ?_) (fun c3 => ?_)
      · skip
        refine x_goN 1 (pc' := 35) (ls' := [xA 5 a0, xI x1, xI x2, xI x3]) (st' := [xI 0]) (w' := w) rfl ?_
        exact x_ret (P := (0 : Int32) = 0 ∨ (0 : Int32) = 1) rfl (by decide) (((h.2.1 c1).2.1 c2).2.1 c3)
      · skip
        refine x_goN 2 (pc' := 35) (ls' := [xA 5 a0, xI x1, xI x2, xI x3]) (st' := [xI 1]) (w' := w) rfl ?_
        exact x_ret (P := (1 : Int32) = 0 ∨ (1 : Int32) = 1) rfl (by decide) (((h.2.1 c1).2.1 c2).2.2 c3)
    · skip
      refine x_goN 1 (pc' := if (0 : Int32) = (0 : Int32) then 34 else 18) (ls' := [xA 5 a0, xI x1, xI x2, xI x3]) (st' := []) (w' := w) rfl ?_
      refine x_brT (by decide) ?_
      refine x_goN 1 (pc' := 35) (ls' := [xA 5 a0, xI x1, xI x2, xI x3]) (st' := [xI 0]) (w' := w) rfl ?_
      exact x_ret (P := (0 : Int32) = 0 ∨ (0 : Int32) = 1) rfl (by decide) ((h.2.1 c1).2.2 c2)
  · skip
    refine x_goN 1 (pc' := if (0 : Int32) = (0 : Int32) then 34 else 9) (ls' := [xA 5 a0, xI x1, xI x2, xI x3]) (st' := []) (w' := w) rfl ?_
    refine x_brT (by decide) ?_
    refine x_goN 1 (pc' := 35) (ls' := [xA 5 a0, xI x1, xI x2, xI x3]) (st' := [xI 0]) (w' := w) rfl ?_
    exact x_ret (P := (0 : Int32) = 0 ∨ (0 : Int32) = 1) rfl (by decide) (h.2.2 c1)
theorem S_Tr_mayUse {d t : Nat} {T : xT} {l i v : Int32} {w : xWd} {Q : xMV → xWd → Prop} (hR : tR w t T) (h1 : pU T l i v → Q (xI 1) w) (h2 : ¬ pU T l i v → Q (xI 0) w) : xWp (d + 3) m_Tr_mayUse 0 [xA 5 t, xI l, xI i, xI v] [] w Q := by
  have h8 := tR_n8 hR
  refine G_Tr_mayUse_0 ⟨hR, fun c => ⟨hR, fun c2 => ⟨hR, fun c3 => ?_, fun c3 => ?_⟩, fun c2 => h2 (fun ⟨a, b, k, e1, e2, e3, ha, hb, hk, hh, _⟩ => c2 ⟨a, k, e1, e3, ha, hk, hh⟩)⟩, fun c => h2 (fun ⟨a, b, k, e1, e2, e3, ha, hb, hk, hh, _⟩ => c ⟨a, b, e1, e2, ha, hb⟩)⟩
  all_goals
    obtain ⟨a, b, rfl, rfl, ha, hb⟩ := c
    obtain ⟨a', k, e1, rfl, ha', hk, hh⟩ := c2
    have e := (z_eq (by omega) (by omega)).mp e1
    subst e
    have hm := tR_m2 hR ha
    have ei : (1 : Int32) - nI b = nI (1 - b) := pk_sub (a := 1) (by omega)
    rw [ei] at c3
  · by_cases hm2 : tm T a = 2
    · rw [vUs_p h8 ha (by omega) hm] at c3
      refine h2 (fun ⟨a2, b2, k2, f1, f2, f3, _, _, _, _, hne⟩ => ?_)
      have e := (z_eq (by omega) (by omega)).mp f1
      subst e
      have e := (z_eq (by omega) (by omega)).mp f2
      subst e
      have e := (z_eq (by omega) (by omega)).mp f3
      subst e
      have hu := (hR.2.2 a ha).2.2.1 (1 - b) (by omega)
      have hlt := tb_lt' hR.2.1 ha hu
      exact hne hm2 ((z_eq (by omega) (by omega)).mp c3)
    · have hn : ¬ pP T (nI a) (nI (1 - b)) := by
        rintro ⟨a2, b2, f1, f2, ha2, hb2⟩
        have e := (z_eq (by omega) (by omega)).mp f1
        subst e
        have e := (z_eq (by omega) (by omega)).mp f2
        omega
      rw [vUs_n hn] at c3
      exact absurd c3 (z_n9 (by omega))
  · refine h1 ⟨a, b, k, rfl, rfl, rfl, ha, hb, hk, hh, fun hm2 he => c3 ?_⟩
    rw [vUs_p h8 ha (by omega) hm, he]
theorem G_Tr_usersOf_0 {d : Nat} {a0 : Nat} {x1 : Int32} {w : xWd} {Q : xMV → xWd → Prop} (h : xWp (d + 1) m_Tr_usersOf 4 [xA 5 a0, xI x1, xI 0, xI 0] [] w Q) : xWp (d + 1) m_Tr_usersOf 0 [xA 5 a0, xI x1, xU, xU] [] w Q := by
  refine x_goN 4 (pc' := 4) (ls' := [xA 5 a0, xI x1, xI 0, xI 0]) (st' := []) (w' := w) rfl ?_
  exact h
theorem G_Tr_usersOf_4 {d : Nat} {a0 : Nat} {x1 : Int32} {x2 : Int32} {x3 : Int32} {w : xWd} {Q : xMV → xWd → Prop} (h : ((w a0 8 ≤ x3 → Q (xI x2) w) ∧ (¬ (w a0 8 ≤ x3) → (vp_in x3 8 ∧ ((p_in (w (32 * a0 + 7) x3.toNatClampNeg) x1 → xWp (d + 1) m_Tr_usersOf 4 [xA 5 a0, xI x1, xI (x2 ||| ((1 : Int32) <<< (x3 &&& 31))), xI (x3 + 1)] [] w Q) ∧ (¬ (p_in (w (32 * a0 + 7) x3.toNatClampNeg) x1) → xWp (d + 1) m_Tr_usersOf 4 [xA 5 a0, xI x1, xI x2, xI (x3 + 1)] [] w Q)))))) : xWp (d + 1) m_Tr_usersOf 4 [xA 5 a0, xI x1, xI x2, xI x3] [] w Q := by
  refine x_goN 4 (pc' := if w a0 8 ≤ x3 then 37 else 12) (ls' := [xA 5 a0, xI x1, xI x2, xI x3]) (st' := []) (w' := w) rfl ?_
  refine x_br (fun c1 => ?_) (fun c1 => ?_)
  · skip
    refine x_goN 1 (pc' := 38) (ls' := [xA 5 a0, xI x1, xI x2, xI x3]) (st' := [xI x2]) (w' := w) rfl ?_
    exact x_ret (P := True) rfl trivial (h.1 c1)
  · skip
    refine x_goN 3 (pc' := 17) (ls' := [xA 5 a0, xI x1, xI x2, xI x3]) (st' := [xI x3, xA 108 (32 * a0 + 7)]) (w' := w) rfl ?_
    refine x_ob (P := vp_in x3 8) (pc' := 18) (ls' := [xA 5 a0, xI x1, xI x2, xI x3]) (st' := [xI (w (32 * a0 + 7) x3.toNatClampNeg)]) (w' := w) rfl (h.2 c1).1 ?_
    refine x_goN 1 (pc' := 19) (ls' := [xA 5 a0, xI x1, xI x2, xI x3]) (st' := [xI x1, xI (w (32 * a0 + 7) x3.toNatClampNeg)]) (w' := w) rfl ?_
    refine x_call (y := m_Vp_inSet) (as := [xI (w (32 * a0 + 7) x3.toNatClampNeg), xI x1]) (rst := []) rfl [xI (w (32 * a0 + 7) x3.toNatClampNeg), xI x1] rfl ?_
    refine S_Vp_inSet (fun c2 => ?_) (fun c2 => ?_)
    · skip
      refine x_goN 1 (pc' := if (1 : Int32) = (0 : Int32) then 31 else 25) (ls' := [xA 5 a0, xI x1, xI x2, xI x3]) (st' := []) (w' := w) rfl ?_
      refine x_brF (by decide) ?_
      refine x_goN 8 (pc' := 4) (ls' := [xA 5 a0, xI x1, xI (x2 ||| ((1 : Int32) <<< (x3 &&& 31))), xI (x3 + 1)]) (st' := []) (w' := w) rfl ?_
      exact ((h.2 c1).2.1 c2)
    · skip
      refine x_goN 1 (pc' := if (0 : Int32) = (0 : Int32) then 31 else 25) (ls' := [xA 5 a0, xI x1, xI x2, xI x3]) (st' := []) (w' := w) rfl ?_
      refine x_brT (by decide) ?_
      refine x_goN 2 (pc' := 4) (ls' := [xA 5 a0, xI x1, xI x2, xI (x3 + 1)]) (st' := []) (w' := w) rfl ?_
      exact ((h.2 c1).2.2 c2)
theorem L_Tr_usersOf {d t v : Nat} {T : xT} {w : xWd} {Q : xMV → xWd → Prop} (hR : tR w t T) (hv : v < 8) (h : Q (xI (nI (mUs T v))) w) : ∀ k l : Nat, l + k = tn T → xWp (d + 1) m_Tr_usersOf 4 [xA 5 t, xI (nI v), xI (nI (z_mk l (fun m => tr T m v))), xI (nI l)] [] w Q := by
  have h8 := tR_n8 hR
  intro k
  induction k with
  | zero =>
    intro l hl
    have e : l = tn T := by omega
    subst e
    exact G_Tr_usersOf_4 ⟨fun _ => h, fun c => absurd (tR_end hR) c⟩
  | succ k ih =>
    intro l hl
    have hlt : l < tn T := by omega
    refine G_Tr_usersOf_4 ⟨fun c => absurd c (tR_ge hR hlt), fun c => ⟨z_in (by omega) (by decide), fun c1 => ?_, fun c1 => ?_⟩⟩
    · have hp := (tC_sp hR hlt hv).mp c1
      rw [z_shl l (by omega), z_mk_or (p := fun m => tr T m v) hp, nI_1]
      exact ih (l + 1) (by omega)
    · have hp := fun q => c1 ((tC_sp hR hlt hv).mpr q)
      rw [z_mk_no (p := fun m => tr T m v) hp, nI_1]
      exact ih (l + 1) (by omega)
theorem S_Tr_usersOf {d t v : Nat} {T : xT} {w : xWd} {Q : xMV → xWd → Prop} (hR : tR w t T) (hv : v < 8) (h : Q (xI (nI (mUs T v))) w) : xWp (d + 1) m_Tr_usersOf 0 [xA 5 t, xI (nI v), xU, xU] [] w Q :=
  G_Tr_usersOf_0 (L_Tr_usersOf hR hv h (tn T) 0 (Nat.zero_add _))
theorem G_Tr_howManyUse_0 {d : Nat} {a0 : Nat} {x1 : Int32} {w : xWd} {Q : xMV → xWd → Prop} (h : xWp (d + 1) m_Tr_usersOf 0 [xA 5 a0, xI x1, xU, xU] [] w (fun a w' => xWp (d + 2) m_Tr_howManyUse 5 [xA 5 a0, xI x1] (x_pu a []) w' Q)) : xWp (d + 2) m_Tr_howManyUse 0 [xA 5 a0, xI x1] [] w Q := by
  refine x_goN 2 (pc' := 2) (ls' := [xA 5 a0, xI x1]) (st' := [xI x1, xA 5 a0]) (w' := w) rfl ?_
  refine x_call (y := m_Tr_usersOf) (as := [xA 5 a0, xI x1]) (rst := []) rfl [xA 5 a0, xI x1, xU, xU] rfl ?_
  exact h
theorem G_Tr_howManyUse_5 {d : Nat} {a0 : Nat} {x1 : Int32} {s0 : Int32} {w : xWd} {Q : xMV → xWd → Prop} (h : xWp (d + 1) m_Jn_bitCount 0 [xI s0] [] w (fun a w' => xWp (d + 2) m_Tr_howManyUse 8 [xA 5 a0, xI x1] (x_pu a []) w' Q)) : xWp (d + 2) m_Tr_howManyUse 5 [xA 5 a0, xI x1] [xI s0] w Q := by
  refine x_call (y := m_Jn_bitCount) (as := [xI s0]) (rst := []) rfl [xI s0] rfl ?_
  exact h
theorem G_Tr_howManyUse_8 {d : Nat} {a0 : Nat} {x1 : Int32} {s0 : Int32} {w : xWd} {Q : xMV → xWd → Prop} (h : Q (xI s0) w) : xWp (d + 2) m_Tr_howManyUse 8 [xA 5 a0, xI x1] [xI s0] w Q := by
  exact x_ret (P := True) rfl trivial h
theorem S_Tr_howManyUse {d t v : Nat} {T : xT} {w : xWd} {Q : xMV → xWd → Prop} (hR : tR w t T) (hv : v < 8) (h : Q (xI (nI (z_pc (mUs T v)))) w) : xWp (d + 2) m_Tr_howManyUse 0 [xA 5 t, xI (nI v)] [] w Q := by
  refine G_Tr_howManyUse_0 (S_Tr_usersOf hR hv ?_)
  refine G_Tr_howManyUse_5 (S_Jn_bitCount ?_)
  rw [v_bc_ok _ (mUs_lt (tR_n8 hR) v)]
  exact G_Tr_howManyUse_8 h
theorem G_Tr_howManyUsedOfAll_0 {d : Nat} {a0 : Nat} {w : xWd} {Q : xMV → xWd → Prop} (h : xWp d m_Tr_howManyUsedOfAll 4 [xA 5 a0, xI 0, xI 0] [] w Q) : xWp d m_Tr_howManyUsedOfAll 0 [xA 5 a0, xU, xU] [] w Q := by
  refine x_goN 4 (pc' := 4) (ls' := [xA 5 a0, xI 0, xI 0]) (st' := []) (w' := w) rfl ?_
  exact h
theorem G_Tr_howManyUsedOfAll_4 {d : Nat} {a0 : Nat} {x1 : Int32} {x2 : Int32} {w : xWd} {Q : xMV → xWd → Prop} (h : ((w a0 8 ≤ x2 → Q (xI x1) w) ∧ (¬ (w a0 8 ≤ x2) → (vp_in x2 8 ∧ xWp d m_Tr_howManyUsedOfAll 4 [xA 5 a0, xI (x1 + (w (32 * a0 + 5) x2.toNatClampNeg)), xI (x2 + 1)] [] w Q)))) : xWp d m_Tr_howManyUsedOfAll 4 [xA 5 a0, xI x1, xI x2] [] w Q := by
  refine x_goN 4 (pc' := if w a0 8 ≤ x2 then 27 else 12) (ls' := [xA 5 a0, xI x1, xI x2]) (st' := []) (w' := w) rfl ?_
  refine x_br (fun c1 => ?_) (fun c1 => ?_)
  · skip
    refine x_goN 1 (pc' := 28) (ls' := [xA 5 a0, xI x1, xI x2]) (st' := [xI x1]) (w' := w) rfl ?_
    exact x_ret (P := True) rfl trivial (h.1 c1)
  · skip
    refine x_goN 4 (pc' := 18) (ls' := [xA 5 a0, xI x1, xI x2]) (st' := [xI x2, xA 108 (32 * a0 + 5), xI x1]) (w' := w) rfl ?_
    refine x_ob (P := vp_in x2 8) (pc' := 19) (ls' := [xA 5 a0, xI x1, xI x2]) (st' := [xI (w (32 * a0 + 5) x2.toNatClampNeg), xI x1]) (w' := w) rfl (h.2 c1).1 ?_
    refine x_goN 4 (pc' := 4) (ls' := [xA 5 a0, xI (x1 + (w (32 * a0 + 5) x2.toNatClampNeg)), xI (x2 + 1)]) (st' := []) (w' := w) rfl ?_
    exact (h.2 c1).2
theorem L_Tr_howManyUsedOfAll {d t : Nat} {T : xT} {w : xWd} {Q : xMV → xWd → Prop} (hR : tR w t T) (h : Q (xI (nI (z_sm (tn T) (tm T)))) w) : ∀ k l : Nat, l + k = tn T → xWp d m_Tr_howManyUsedOfAll 4 [xA 5 t, xI (nI (z_sm l (tm T))), xI (nI l)] [] w Q := by
  have h8 := tR_n8 hR
  intro k
  induction k with
  | zero =>
    intro l hl
    have e : l = tn T := by omega
    subst e
    exact G_Tr_howManyUsedOfAll_4 ⟨fun _ => h, fun c => absurd (tR_end hR) c⟩
  | succ k ih =>
    intro l hl
    have hlt : l < tn T := by omega
    refine G_Tr_howManyUsedOfAll_4 ⟨fun c => absurd c (tR_ge hR hlt), fun c => ⟨z_in (by omega) (by decide), ?_⟩⟩
    rw [tC_m hR hlt, nI_add, nI_1]
    exact ih (l + 1) (by omega)
theorem S_Tr_howManyUsedOfAll {d t : Nat} {T : xT} {w : xWd} {Q : xMV → xWd → Prop} (hR : tR w t T) (h : Q (xI (nI (z_sm (tn T) (tm T)))) w) : xWp d m_Tr_howManyUsedOfAll 0 [xA 5 t, xU, xU] [] w Q :=
  G_Tr_howManyUsedOfAll_0 (L_Tr_howManyUsedOfAll hR h (tn T) 0 (Nat.zero_add _))
theorem G_Tr_cost_0 {d : Nat} {a0 : Nat} {x1 : Int32} {w : xWd} {Q : xMV → xWd → Prop} (h : ((p_lt x1 (w a0 8) → xWp (d + 2) m_Tr_howManyUse 0 [xA 5 a0, xI x1] [] w (fun a w' => xWp (d + 3) m_Tr_cost 15 [xA 5 a0, xI x1, xU] (x_pu a []) w' Q)) ∧ (¬ (p_lt x1 (w a0 8)) → Q (xI 0) w))) : xWp (d + 3) m_Tr_cost 0 [xA 5 a0, xI x1, xU] [] w Q := by
  refine x_goN 2 (pc' := 2) (ls' := [xA 5 a0, xI x1, xU]) (st' := [xI x1, xA 5 a0]) (w' := w) rfl ?_
  refine x_call (y := m_Tr_isLine) (as := [xA 5 a0, xI x1]) (rst := []) rfl [xA 5 a0, xI x1] rfl ?_
  refine S_Tr_isLine (fun c1 => ?_) (fun c1 => ?_)
  · skip
    refine x_goN 1 (pc' := if (1 : Int32) = (0 : Int32) then 8 else 10) (ls' := [xA 5 a0, xI x1, xU]) (st' := []) (w' := w) rfl ?_
    refine x_brF (by decide) ?_
    refine x_goN 2 (pc' := 12) (ls' := [xA 5 a0, xI x1, xU]) (st' := [xI x1, xA 5 a0]) (w' := w) rfl ?_
    refine x_call (y := m_Tr_howManyUse) (as := [xA 5 a0, xI x1]) (rst := []) rfl [xA 5 a0, xI x1] rfl ?_
    exact (h.1 c1)
  · skip
    refine x_goN 1 (pc' := if (0 : Int32) = (0 : Int32) then 8 else 10) (ls' := [xA 5 a0, xI x1, xU]) (st' := []) (w' := w) rfl ?_
    refine x_brT (by decide) ?_
    refine x_goN 1 (pc' := 9) (ls' := [xA 5 a0, xI x1, xU]) (st' := [xI 0]) (w' := w) rfl ?_
    exact x_ret (P := True) rfl trivial (h.2 c1)
theorem G_Tr_cost_15 {d : Nat} {a0 : Nat} {x1 : Int32} {s0 : Int32} {w : xWd} {Q : xMV → xWd → Prop} (h : (vp_in x1 8 ∧ ((w (32 * a0 + 1) x1.toNatClampNeg = 1 → Q (xI (s0 + 1)) w) ∧ (¬ (w (32 * a0 + 1) x1.toNatClampNeg = 1) → ((w (32 * a0 + 1) x1.toNatClampNeg = 2 → Q (xI (2 * s0)) w) ∧ (¬ (w (32 * a0 + 1) x1.toNatClampNeg = 2) → Q (xI s0) w)))))) : xWp (d + 3) m_Tr_cost 15 [xA 5 a0, xI x1, xU] [xI s0] w Q := by
  refine x_goN 4 (pc' := 21) (ls' := [xA 5 a0, xI x1, xI s0]) (st' := [xI x1, xA 108 (32 * a0 + 1)]) (w' := w) rfl ?_
  refine x_ob (P := vp_in x1 8) (pc' := 22) (ls' := [xA 5 a0, xI x1, xI s0]) (st' := [xI (w (32 * a0 + 1) x1.toNatClampNeg)]) (w' := w) rfl h.1 ?_
  refine x_goN 1 (pc' := if w (32 * a0 + 1) x1.toNatClampNeg = 1 then 52 else if w (32 * a0 + 1) x1.toNatClampNeg = 2 then 48 else 56) (ls' := [xA 5 a0, xI x1, xI s0]) (st' := []) (w' := w) rfl ?_
  refine x_br (fun c1 => ?_) (fun c1 => ?_)
  · skip
    refine x_goN 3 (pc' := 55) (ls' := [xA 5 a0, xI x1, xI s0]) (st' := [xI (s0 + 1)]) (w' := w) rfl ?_
    exact x_ret (P := True) rfl trivial (h.2.1 c1)
  · skip
    refine x_br (fun c2 => ?_) (fun c2 => ?_)
    · skip
      refine x_goN 3 (pc' := 51) (ls' := [xA 5 a0, xI x1, xI s0]) (st' := [xI (2 * s0)]) (w' := w) rfl ?_
      exact x_ret (P := True) rfl trivial ((h.2.2 c1).1 c2)
    · skip
      refine x_goN 1 (pc' := 57) (ls' := [xA 5 a0, xI x1, xI s0]) (st' := [xI s0]) (w' := w) rfl ?_
      exact x_ret (P := True) rfl trivial ((h.2.2 c1).2 c2)
theorem S_Tr_cost {d t v : Nat} {T : xT} {w : xWd} {Q : xMV → xWd → Prop} (hR : tR w t T) (hv : v < tn T) (h : Q (xI (nI (tCo T v))) w) : xWp (d + 3) m_Tr_cost 0 [xA 5 t, xI (nI v), xU] [] w Q := by
  have h8 := tR_n8 hR
  have hk := (hR.2.2 v hv).1
  refine G_Tr_cost_0 ⟨fun _ => S_Tr_howManyUse hR (by omega) ?_, fun c => absurd (tR_lt hR hv) c⟩
  refine G_Tr_cost_15 ⟨z_in (by omega) (by decide), ?_⟩
  rw [tC_k hR hv]
  unfold tCo at h
  refine ⟨fun c => ?_, fun c => ⟨fun c2 => ?_, fun c2 => ?_⟩⟩
  · have e : tk T v = 1 := (z_eq (b := 1) (by omega) (by decide)).mp c
    rw [if_neg (by omega), if_pos e] at h
    rw [nI_1]; exact h
  · have e : tk T v = 2 := (z_eq (b := 2) (by omega) (by decide)).mp c2
    rw [if_pos e] at h
    rw [show (2 : Int32) * nI (z_pc (mUs T v)) = nI (2 * z_pc (mUs T v)) from pk_mul 2 _]; exact h
  · rw [if_neg (fun e => c2 (by rw [e]; rfl)), if_neg (fun e => c (by rw [e]; rfl))] at h
    exact h
theorem G_Tr_usedBelow_0 {d : Nat} {a0 : Nat} {x1 : Int32} {w : xWd} {Q : xMV → xWd → Prop} (h : xWp (d + 1) m_Tr_usedBelow 4 [xA 5 a0, xI x1, xI 0, xI 0] [] w Q) : xWp (d + 1) m_Tr_usedBelow 0 [xA 5 a0, xI x1, xU, xU] [] w Q := by
  refine x_goN 4 (pc' := 4) (ls' := [xA 5 a0, xI x1, xI 0, xI 0]) (st' := []) (w' := w) rfl ?_
  exact h
theorem G_Tr_usedBelow_4 {d : Nat} {a0 : Nat} {x1 : Int32} {x2 : Int32} {x3 : Int32} {w : xWd} {Q : xMV → xWd → Prop} (h : ((w a0 8 ≤ x3 → Q (xI x2) w) ∧ (¬ (w a0 8 ≤ x3) → (vp_in x3 8 ∧ ((p_in (w (32 * a0 + 3) x3.toNatClampNeg) x1 → (vp_in x3 8 ∧ xWp (d + 1) m_Tr_usedBelow 4 [xA 5 a0, xI x1, xI (x2 ||| (w (32 * a0 + 7) x3.toNatClampNeg)), xI (x3 + 1)] [] w Q)) ∧ (¬ (p_in (w (32 * a0 + 3) x3.toNatClampNeg) x1) → xWp (d + 1) m_Tr_usedBelow 4 [xA 5 a0, xI x1, xI x2, xI (x3 + 1)] [] w Q)))))) : xWp (d + 1) m_Tr_usedBelow 4 [xA 5 a0, xI x1, xI x2, xI x3] [] w Q := by
  refine x_goN 4 (pc' := if w a0 8 ≤ x3 then 40 else 12) (ls' := [xA 5 a0, xI x1, xI x2, xI x3]) (st' := []) (w' := w) rfl ?_
  refine x_br (fun c1 => ?_) (fun c1 => ?_)
  · skip
    refine x_goN 1 (pc' := 41) (ls' := [xA 5 a0, xI x1, xI x2, xI x3]) (st' := [xI x2]) (w' := w) rfl ?_
    exact x_ret (P := True) rfl trivial (h.1 c1)
  · skip
    refine x_goN 3 (pc' := 17) (ls' := [xA 5 a0, xI x1, xI x2, xI x3]) (st' := [xI x3, xA 108 (32 * a0 + 3)]) (w' := w) rfl ?_
    refine x_ob (P := vp_in x3 8) (pc' := 18) (ls' := [xA 5 a0, xI x1, xI x2, xI x3]) (st' := [xI (w (32 * a0 + 3) x3.toNatClampNeg)]) (w' := w) rfl (h.2 c1).1 ?_
    refine x_goN 1 (pc' := 19) (ls' := [xA 5 a0, xI x1, xI x2, xI x3]) (st' := [xI x1, xI (w (32 * a0 + 3) x3.toNatClampNeg)]) (w' := w) rfl ?_
    refine x_call (y := m_Vp_inSet) (as := [xI (w (32 * a0 + 3) x3.toNatClampNeg), xI x1]) (rst := []) rfl [xI (w (32 * a0 + 3) x3.toNatClampNeg), xI x1] rfl ?_
    refine S_Vp_inSet (fun c2 => ?_) (fun c2 => ?_)
    · skip
      refine x_goN 1 (pc' := if (1 : Int32) = (0 : Int32) then 34 else 25) (ls' := [xA 5 a0, xI x1, xI x2, xI x3]) (st' := []) (w' := w) rfl ?_
      refine x_brF (by decide) ?_
      refine x_goN 4 (pc' := 31) (ls' := [xA 5 a0, xI x1, xI x2, xI x3]) (st' := [xI x3, xA 108 (32 * a0 + 7), xI x2]) (w' := w) rfl ?_
      refine x_ob (P := vp_in x3 8) (pc' := 32) (ls' := [xA 5 a0, xI x1, xI x2, xI x3]) (st' := [xI (w (32 * a0 + 7) x3.toNatClampNeg), xI x2]) (w' := w) rfl ((h.2 c1).2.1 c2).1 ?_
      refine x_goN 4 (pc' := 4) (ls' := [xA 5 a0, xI x1, xI (x2 ||| (w (32 * a0 + 7) x3.toNatClampNeg)), xI (x3 + 1)]) (st' := []) (w' := w) rfl ?_
      exact ((h.2 c1).2.1 c2).2
    · skip
      refine x_goN 1 (pc' := if (0 : Int32) = (0 : Int32) then 34 else 25) (ls' := [xA 5 a0, xI x1, xI x2, xI x3]) (st' := []) (w' := w) rfl ?_
      refine x_brT (by decide) ?_
      refine x_goN 2 (pc' := 4) (ls' := [xA 5 a0, xI x1, xI x2, xI (x3 + 1)]) (st' := []) (w' := w) rfl ?_
      exact ((h.2 c1).2.2 c2)
theorem mUb_or {T : xT} {l m : Nat} : nI (z_mk 8 (fun v => z_any m (fun q => tb T q l && tr T q v))) ||| nI (tU T m) = nI (z_mk 8 (fun v => z_any m (fun q => tb T q l && tr T q v) || tr T m v)) := by
  rw [fa_or]
  congr 1
  apply Nat.eq_of_testBit_eq
  intro i
  unfold tU
  rw [Nat.testBit_or, z_mk_tb, z_mk_tb, z_mk_tb]
  cases decide (i < 8) <;> rfl
theorem L_Tr_usedBelow {d t l : Nat} {T : xT} {w : xWd} {Q : xMV → xWd → Prop} (hR : tR w t T) (hl : l < 8) (h : Q (xI (nI (mUb T l))) w) : ∀ k m : Nat, m + k = tn T → xWp (d + 1) m_Tr_usedBelow 4 [xA 5 t, xI (nI l), xI (nI (z_mk 8 (fun v => z_any m (fun q => tb T q l && tr T q v)))), xI (nI m)] [] w Q := by
  have h8 := tR_n8 hR
  intro k
  induction k with
  | zero =>
    intro m hm
    have e : m = tn T := by omega
    subst e
    exact G_Tr_usedBelow_4 ⟨fun _ => h, fun c => absurd (tR_end hR) c⟩
  | succ k ih =>
    intro m hm
    have hlt : m < tn T := by omega
    refine G_Tr_usedBelow_4 ⟨fun c => absurd c (tR_ge hR hlt), fun c => ⟨z_in (by omega) (by decide), fun c1 => ⟨z_in (by omega) (by decide), ?_⟩, fun c1 => ?_⟩⟩
    · have hp := (tC_op hR hlt hl).mp c1
      rw [tC_s hR hlt, mUb_or, nI_1]
      have := ih (m + 1) (by omega)
      rw [show (fun v => z_any (m + 1) (fun q => tb T q l && tr T q v)) = (fun v => z_any m (fun q => tb T q l && tr T q v) || tr T m v) from by funext v; show (z_any m _ || (tb T m l && tr T m v)) = _; rw [hp, Bool.true_and]] at this
      exact this
    · have hp : tb T m l = false := by
        cases hb : tb T m l with
        | true => exact absurd ((tC_op hR hlt hl).mpr hb) c1
        | false => rfl
      rw [nI_1]
      have := ih (m + 1) (by omega)
      rw [show (fun v => z_any (m + 1) (fun q => tb T q l && tr T q v)) = (fun v => z_any m (fun q => tb T q l && tr T q v)) from by funext v; show (z_any m _ || (tb T m l && tr T m v)) = _; rw [hp, Bool.false_and, Bool.or_false]] at this
      exact this
theorem z_mk_0 (k : Nat) : z_mk k (fun _ => false) = 0 := by
  induction k with
  | zero => rfl
  | succ k ih => rw [z_mk_s, ih]; rfl
theorem S_Tr_usedBelow {d t l : Nat} {T : xT} {w : xWd} {Q : xMV → xWd → Prop} (hR : tR w t T) (hl : l < 8) (h : Q (xI (nI (mUb T l))) w) : xWp (d + 1) m_Tr_usedBelow 0 [xA 5 t, xI (nI l), xU, xU] [] w Q := by
  have := L_Tr_usedBelow (d := d) hR hl h (tn T) 0 (Nat.zero_add _)
  rw [show z_mk 8 (fun v => z_any 0 (fun q => tb T q l && tr T q v)) = 0 from z_mk_0 8] at this
  exact G_Tr_usedBelow_0 this
theorem G_Tr_liveBehind_0 {d : Nat} {a0 : Nat} {x1 : Int32} {w : xWd} {Q : xMV → xWd → Prop} (h : ((p_lt x1 (w a0 8) → (vp_in x1 8 ∧ xWp (d + 1) m_Tr_usedBelow 0 [xA 5 a0, xI x1, xU, xU] [] w (fun a w' => xWp (d + 2) m_Tr_liveBehind 22 [xA 5 a0, xI x1] (x_pu a [xI (w (32 * a0 + 3) x1.toNatClampNeg), xI ((1 : Int32) <<< (x1 &&& 31))]) w' Q))) ∧ (¬ (p_lt x1 (w a0 8)) → Q (xI 0) w))) : xWp (d + 2) m_Tr_liveBehind 0 [xA 5 a0, xI x1] [] w Q := by
  refine x_goN 2 (pc' := 2) (ls' := [xA 5 a0, xI x1]) (st' := [xI x1, xA 5 a0]) (w' := w) rfl ?_
  refine x_call (y := m_Tr_isLine) (as := [xA 5 a0, xI x1]) (rst := []) rfl [xA 5 a0, xI x1] rfl ?_
  refine S_Tr_isLine (fun c1 => ?_) (fun c1 => ?_)
  · skip
    refine x_goN 1 (pc' := if (1 : Int32) = (0 : Int32) then 27 else 8) (ls' := [xA 5 a0, xI x1]) (st' := []) (w' := w) rfl ?_
    refine x_brF (by decide) ?_
    refine x_goN 6 (pc' := 16) (ls' := [xA 5 a0, xI x1]) (st' := [xI x1, xA 108 (32 * a0 + 3), xI ((1 : Int32) <<< (x1 &&& 31))]) (w' := w) rfl ?_
    refine x_ob (P := vp_in x1 8) (pc' := 17) (ls' := [xA 5 a0, xI x1]) (st' := [xI (w (32 * a0 + 3) x1.toNatClampNeg), xI ((1 : Int32) <<< (x1 &&& 31))]) (w' := w) rfl (h.1 c1).1 ?_
    refine x_goN 2 (pc' := 19) (ls' := [xA 5 a0, xI x1]) (st' := [xI x1, xA 5 a0, xI (w (32 * a0 + 3) x1.toNatClampNeg), xI ((1 : Int32) <<< (x1 &&& 31))]) (w' := w) rfl ?_
    refine x_call (y := m_Tr_usedBelow) (as := [xA 5 a0, xI x1]) (rst := [xI (w (32 * a0 + 3) x1.toNatClampNeg), xI ((1 : Int32) <<< (x1 &&& 31))]) rfl [xA 5 a0, xI x1, xU, xU] rfl ?_
    exact (h.1 c1).2
  · skip
    refine x_goN 1 (pc' := if (0 : Int32) = (0 : Int32) then 27 else 8) (ls' := [xA 5 a0, xI x1]) (st' := []) (w' := w) rfl ?_
    refine x_brT (by decide) ?_
    refine x_goN 1 (pc' := 28) (ls' := [xA 5 a0, xI x1]) (st' := [xI 0]) (w' := w) rfl ?_
    exact x_ret (P := True) rfl trivial (h.2 c1)
theorem G_Tr_liveBehind_22 {d : Nat} {a0 : Nat} {x1 : Int32} {s2 : Int32} {s1 : Int32} {s0 : Int32} {w : xWd} {Q : xMV → xWd → Prop} (h : Q (xI (s0 ||| (s1 &&& s2))) w) : xWp (d + 2) m_Tr_liveBehind 22 [xA 5 a0, xI x1] [xI s2, xI s1, xI s0] w Q := by
  refine x_goN 3 (pc' := 28) (ls' := [xA 5 a0, xI x1]) (st' := [xI (s0 ||| (s1 &&& s2))]) (w' := w) rfl ?_
  exact x_ret (P := True) rfl trivial h
theorem mLv_eq {T : xT} {l : Nat} (hl : l < 8) : nI (2 ^ l) ||| (nI (tO T l) &&& nI (mUb T l)) = nI (mLv T l) := by
  rw [fa_and, fa_or]
  congr 1
  apply Nat.eq_of_testBit_eq
  intro i
  unfold mLv tO mUb
  rw [Nat.testBit_or, Nat.testBit_and, Nat.testBit_two_pow, z_mk_tb, z_mk_tb, z_mk_tb]
  by_cases hi : i < 8
  · rw [decide_eq_true hi, Bool.true_and, Bool.true_and, Bool.true_and]
    congr 1
    exact decide_eq_decide.mpr eq_comm
  · rw [decide_eq_false hi, decide_eq_false (by omega)]; rfl
theorem S_Tr_liveBehind {d t l : Nat} {T : xT} {w : xWd} {Q : xMV → xWd → Prop} (hR : tR w t T) (hl : l < tn T) (h : Q (xI (nI (mLv T l))) w) : xWp (d + 2) m_Tr_liveBehind 0 [xA 5 t, xI (nI l)] [] w Q := by
  have h8 := tR_n8 hR
  refine G_Tr_liveBehind_0 ⟨fun _ => ⟨z_in (by omega) (by decide), S_Tr_usedBelow hR (by omega) ?_⟩, fun c => absurd (tR_lt hR hl) c⟩
  refine G_Tr_liveBehind_22 ?_
  rw [tC_o hR hl, z_shl l (by omega), mLv_eq (by omega)]
  exact h
theorem G_Tr_pressure_0 {d : Nat} {a0 : Nat} {x1 : Int32} {w : xWd} {Q : xMV → xWd → Prop} (h : xWp (d + 2) m_Tr_liveBehind 0 [xA 5 a0, xI x1] [] w (fun a w' => xWp (d + 3) m_Tr_pressure 5 [xA 5 a0, xI x1] (x_pu a []) w' Q)) : xWp (d + 3) m_Tr_pressure 0 [xA 5 a0, xI x1] [] w Q := by
  refine x_goN 2 (pc' := 2) (ls' := [xA 5 a0, xI x1]) (st' := [xI x1, xA 5 a0]) (w' := w) rfl ?_
  refine x_call (y := m_Tr_liveBehind) (as := [xA 5 a0, xI x1]) (rst := []) rfl [xA 5 a0, xI x1] rfl ?_
  exact h
theorem G_Tr_pressure_5 {d : Nat} {a0 : Nat} {x1 : Int32} {s0 : Int32} {w : xWd} {Q : xMV → xWd → Prop} (h : xWp (d + 2) m_Jn_bitCount 0 [xI s0] [] w (fun a w' => xWp (d + 3) m_Tr_pressure 8 [xA 5 a0, xI x1] (x_pu a []) w' Q)) : xWp (d + 3) m_Tr_pressure 5 [xA 5 a0, xI x1] [xI s0] w Q := by
  refine x_call (y := m_Jn_bitCount) (as := [xI s0]) (rst := []) rfl [xI s0] rfl ?_
  exact h
theorem G_Tr_pressure_8 {d : Nat} {a0 : Nat} {x1 : Int32} {s0 : Int32} {w : xWd} {Q : xMV → xWd → Prop} (h : Q (xI s0) w) : xWp (d + 3) m_Tr_pressure 8 [xA 5 a0, xI x1] [xI s0] w Q := by
  exact x_ret (P := True) rfl trivial h
theorem S_Tr_pressure {d t l : Nat} {T : xT} {w : xWd} {Q : xMV → xWd → Prop} (hR : tR w t T) (hl : l < tn T) (h : Q (xI (nI (z_pc (mLv T l)))) w) : xWp (d + 3) m_Tr_pressure 0 [xA 5 t, xI (nI l)] [] w Q := by
  refine G_Tr_pressure_0 (S_Tr_liveBehind hR hl ?_)
  refine G_Tr_pressure_5 (S_Jn_bitCount ?_)
  rw [v_bc_ok _ (mLv_lt T l)]
  exact G_Tr_pressure_8 h

