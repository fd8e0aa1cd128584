/-! COPIES: the class -/
def cMv (w : xWd) (n : Nat) (G : xGM) : Prop := w 38 2 = nI n ∧ w 38 3 = nI (g_op n G.1) ∧ w 38 4 = nI G.2.1 ∧ w 38 5 = nI G.2.2.1 ∧ (∀ p, p < n → G.1 p ≠ p → w 1217 p = nI (G.1 p)) ∧ ∀ j, j < G.2.1 → w 1218 j = nI (G.2.2.2 j)
def gMv (w w' : xWd) : Prop := ∀ a, a ≠ 38 → a ≠ 1217 → a ≠ 1218 → w' a = w a
theorem gMv_tr {w w1 w2 : xWd} (h : gMv w w1) (h2 : gMv w1 w2) : gMv w w2 := fun a a1 a2 a3 => (h2 a a1 a2 a3).trans (h a a1 a2 a3)
theorem G_Mv_write_0 {d : Nat} {x1 : Int32} {x2 : Int32} {w : xWd} {Q : xMV → xWd → Prop} (h : ((20 ≤ w 38 4 → Q xU w) ∧ (¬ (20 ≤ w 38 4) → (vp_in (w 38 4) 20 ∧ ∀ w1 : xWd, w1 = x_set w 1218 ((w 38 4).toNatClampNeg) ((10 * x1) + x2) → (∀ w2 : xWd, w2 = x_set w1 38 4 ((w1 38 4) + 1) → Q xU w2))))) : xWp d m_Mv_write 0 [xA 1 38, xI x1, xI x2] [] w Q := by
  refine x_goN 4 (pc' := if 20 ≤ w 38 4 then 34 else 9) (ls' := [xA 1 38, xI x1, xI x2]) (st' := []) (w' := w) rfl ?_
  refine x_br (fun c1 => ?_) (fun c1 => ?_)
  · skip
    exact x_ret (P := True) rfl trivial (h.1 c1)
  · skip
    refine x_goN 9 (pc' := 23) (ls' := [xA 1 38, xI x1, xI x2]) (st' := [xI ((10 * x1) + x2), xI (w 38 4), xA 120 1218]) (w' := w) rfl ?_
    refine x_obW (P := vp_in (w 38 4) 20) (pc' := 24) (ls' := [xA 1 38, xI x1, xI x2]) (st' := []) (w' := x_set w 1218 ((w 38 4).toNatClampNeg) ((10 * x1) + x2)) rfl (h.2 c1).1 (fun w1 ew1 => ?_)
    refine x_goN 5 (pc' := 31) (ls' := [xA 1 38, xI x1, xI x2]) (st' := [xI ((w1 38 4) + 1), xA 1 38]) (w' := w1) rfl ?_
    refine x_goW (pc' := 34) (ls' := [xA 1 38, xI x1, xI x2]) (st' := []) (w' := x_set w1 38 4 ((w1 38 4) + 1)) rfl (fun w2 ew2 => ?_)
    exact x_ret (P := True) rfl trivial (((h.2 c1).2 w1 ew1) w2 ew2)
theorem S_Mv_write {d a b c : Nat} {w : xWd} {Q : xMV → xWd → Prop} (hc : c < 20) (hw : w 38 4 = nI c) (h : ∀ w', (∀ q, q ≠ 38 → q ≠ 1218 → w' q = w q) → w' 38 4 = nI (c + 1) → (∀ j, j ≠ 4 → w' 38 j = w 38 j) → w' 1218 c = nI (10 * a + b) → (∀ j, j ≠ c → w' 1218 j = w 1218 j) → Q xU w') : xWp d m_Mv_write 0 [xA 1 38, xI (nI a), xI (nI b)] [] w Q := by
  refine G_Mv_write_0 ?_
  rw [hw]
  refine ⟨fun q => absurd ((z_le (a := 20) (by decide) (by omega)).mp q) (by omega), fun _ => ⟨z_in hc (by decide), fun w1 e1 w2 e2 => ?_⟩⟩
  rw [z_cl' (by omega), show (10 : Int32) * nI a = nI (10 * a) from pk_mul 10 a, nI_add] at e1
  have k1 : w1 38 4 = nI c := by rw [e1, x_set_o (by decide)]; exact hw
  rw [k1, nI_1] at e2
  refine h w2 (fun q q1 q2 => by rw [e2, x_set_o q1, e1, x_set_o q2]) (by rw [e2, x_set_s, upd_s]) (fun j hj => by rw [e2, x_set_s, upd_o hj, e1, x_set_o (by decide)]) ?_ (fun j hj => ?_)
  · rw [e2, x_set_o (by decide), e1, x_set_s, upd_s]
  · rw [e2, x_set_o (by decide), e1, x_set_s, upd_o hj]
theorem G_Mv_fill_0 {d : Nat} {x1 : Int32} {w : xWd} {Q : xMV → xWd → Prop} (h : ((w 38 2 ≤ x1 → Q xU w) ∧ (¬ (w 38 2 ≤ x1) → (vp_in x1 8 ∧ xWp d m_Mv_write 0 [xA 1 38, xI x1, xI (w 1217 x1.toNatClampNeg)] [] w (fun a w' => xWp (d + 1) m_Mv_fill 19 [xA 1 38, xI x1] (x_pu a []) w' Q))))) : xWp (d + 1) m_Mv_fill 0 [xA 1 38, xI x1] [] w Q := by
  refine x_goN 4 (pc' := if w 38 2 ≤ x1 then 33 else 8) (ls' := [xA 1 38, xI x1]) (st' := []) (w' := w) rfl ?_
  refine x_br (fun c1 => ?_) (fun c1 => ?_)
  · skip
    exact x_ret (P := True) rfl trivial (h.1 c1)
  · skip
    refine x_goN 5 (pc' := 15) (ls' := [xA 1 38, xI x1]) (st' := [xI x1, xA 108 1217, xI x1, xA 1 38]) (w' := w) rfl ?_
    refine x_ob (P := vp_in x1 8) (pc' := 16) (ls' := [xA 1 38, xI x1]) (st' := [xI (w 1217 x1.toNatClampNeg), xI x1, xA 1 38]) (w' := w) rfl (h.2 c1).1 ?_
    refine x_call (y := m_Mv_write) (as := [xA 1 38, xI x1, xI (w 1217 x1.toNatClampNeg)]) (rst := []) rfl [xA 1 38, xI x1, xI (w 1217 x1.toNatClampNeg)] rfl ?_
    exact (h.2 c1).2
theorem G_Mv_fill_19 {d : Nat} {x1 : Int32} {w : xWd} {Q : xMV → xWd → Prop} (h : (∀ w1 : xWd, w1 = x_set w 38 3 ((w 38 3) &&& (((1 : Int32) <<< (x1 &&& 31)) ^^^ (-1))) → Q xU w1)) : xWp (d + 1) m_Mv_fill 19 [xA 1 38, xI x1] [] w Q := by
  refine x_goN 9 (pc' := 30) (ls' := [xA 1 38, xI x1]) (st' := [xI ((w 38 3) &&& (((1 : Int32) <<< (x1 &&& 31)) ^^^ (-1))), xA 1 38]) (w' := w) rfl ?_
  refine x_goW (pc' := 33) (ls' := [xA 1 38, xI x1]) (st' := []) (w' := x_set w 38 3 ((w 38 3) &&& (((1 : Int32) <<< (x1 &&& 31)) ^^^ (-1)))) rfl (fun w1 ew1 => ?_)
  exact x_ret (P := True) rfl trivial (h w1 ew1)
theorem S_Mv_fill {d n p : Nat} {G : xGM} {w : xWd} {Q : xMV → xWd → Prop} (hn : n ≤ 8) (hp : p < n) (hg : G.1 p ≠ p) (hi : gIn n G.1) (hc : G.2.1 < 20) (hw : cMv w n G) (h : ∀ w', gMv w w' → cMv w' n (g_fi G p) → Q xU w') : xWp (d + 1) m_Mv_fill 0 [xA 1 38, xI (nI p)] [] w Q := by
  obtain ⟨a2, a3, a4, a5, a6, a7⟩ := hw
  refine G_Mv_fill_0 ?_
  rw [a2, z_cl' (by omega), a6 p hp hg]
  refine ⟨fun q => absurd ((z_le (by omega) (by omega)).mp q) (by omega), fun _ => ⟨z_in (by omega) (by decide), S_Mv_write hc a4 (fun w1 b1 b2 b3 b4 b5 => ?_)⟩⟩
  refine G_Mv_fill_19 (fun w2 e2 => ?_)
  rw [b3 3 (by decide), a3, z_shl p (by omega), z_clr _ (g_op_lt hn _) p (by omega)] at e2
  refine h w2 (fun q q1 q2 q3 => by rw [e2, x_set_o q1, b1 q q1 q3]) ⟨?_, ?_, ?_, ?_, fun q hq hne => ?_, fun j hj => ?_⟩
  · rw [e2, x_set_s, upd_o (by decide), b3 2 (by decide)]; exact a2
  · rw [e2, x_set_s, upd_s]
    congr 1
    apply z_ext (z_cl_lt _ (g_op_lt hn _) p (by omega)) (g_op_lt hn _)
    intro j hj
    rw [z_cl_tb _ (g_op_lt hn _) p (by omega) j hj, g_op_tb, g_op_tb]
    show _ = (decide (j < n) && decide ((if j = p then p else G.1 j) ≠ j))
    by_cases ej : j = p
    · subst ej
      rw [if_pos rfl, decide_eq_false (show ¬ j ≠ j by omega), Bool.and_false, Bool.and_false]
    · rw [if_neg ej, decide_eq_true ej, Bool.and_true]
  · rw [e2, x_set_s, upd_o (by decide)]; exact b2
  · rw [e2, x_set_s, upd_o (by decide), b3 5 (by decide)]; exact a5
  · have hne' : (if q = p then p else G.1 q) ≠ q := hne
    by_cases eq : q = p
    · rw [if_pos eq] at hne'; exact absurd eq.symm hne'
    · rw [if_neg eq] at hne'
      show w2 1217 q = nI (if q = p then p else G.1 q)
      rw [if_neg eq, e2, x_set_o (by decide), b1 1217 (by decide) (by decide)]
      exact a6 q hq hne'
  · have hj' : j < G.2.1 + 1 := hj
    show w2 1218 j = nI (if j = G.2.1 then 10 * p + G.1 p else G.2.2.2 j)
    rw [e2, x_set_o (by decide)]
    by_cases ej : j = G.2.1
    · rw [if_pos ej, ej]; exact b4
    · rw [if_neg ej, b5 j ej]; exact a7 j (by omega)
theorem G_Mv_saveToSpare_0 {d : Nat} {x1 : Int32} {w : xWd} {Q : xMV → xWd → Prop} (h : xWp d m_Mv_write 0 [xA 1 38, xI (w 38 2), xI x1] [] w (fun a w' => xWp (d + 1) m_Mv_saveToSpare 9 [xA 1 38, xI x1, xU] (x_pu a []) w' Q)) : xWp (d + 1) m_Mv_saveToSpare 0 [xA 1 38, xI x1, xU] [] w Q := by
  refine x_goN 4 (pc' := 6) (ls' := [xA 1 38, xI x1, xU]) (st' := [xI x1, xI (w 38 2), xA 1 38]) (w' := w) rfl ?_
  refine x_call (y := m_Mv_write) (as := [xA 1 38, xI (w 38 2), xI x1]) (rst := []) rfl [xA 1 38, xI (w 38 2), xI x1] rfl ?_
  exact h
theorem G_Mv_saveToSpare_9 {d : Nat} {x1 : Int32} {w : xWd} {Q : xMV → xWd → Prop} (h : (∀ w1 : xWd, w1 = x_set w 38 5 ((w 38 5) + 1) → xWp (d + 1) m_Mv_saveToSpare 21 [xA 1 38, xI x1, xI 0] [] w1 Q)) : xWp (d + 1) m_Mv_saveToSpare 9 [xA 1 38, xI x1, xU] [] w Q := by
  refine x_goN 5 (pc' := 16) (ls' := [xA 1 38, xI x1, xU]) (st' := [xI ((w 38 5) + 1), xA 1 38]) (w' := w) rfl ?_
  refine x_goW (pc' := 19) (ls' := [xA 1 38, xI x1, xU]) (st' := []) (w' := x_set w 38 5 ((w 38 5) + 1)) rfl (fun w1 ew1 => ?_)
  refine x_goN 2 (pc' := 21) (ls' := [xA 1 38, xI x1, xI 0]) (st' := []) (w' := w1) rfl ?_
  exact (h w1 ew1)
theorem G_Mv_saveToSpare_21 {d : Nat} {x1 : Int32} {x2 : Int32} {w : xWd} {Q : xMV → xWd → Prop} (h : ((w 38 2 ≤ x2 → Q xU w) ∧ (¬ (w 38 2 ≤ x2) → ((p_in (w 38 3) x2 → (vp_in x2 8 ∧ ((w 1217 x2.toNatClampNeg = x1 → (vp_in x2 8 ∧ ∀ w1 : xWd, w1 = x_set w 1217 x2.toNatClampNeg (w 38 2) → xWp (d + 1) m_Mv_saveToSpare 21 [xA 1 38, xI x1, xI (x2 + 1)] [] w1 Q)) ∧ (¬ (w 1217 x2.toNatClampNeg = x1) → xWp (d + 1) m_Mv_saveToSpare 21 [xA 1 38, xI x1, xI (x2 + 1)] [] w Q)))) ∧ (¬ (p_in (w 38 3) x2) → xWp (d + 1) m_Mv_saveToSpare 21 [xA 1 38, xI x1, xI (x2 + 1)] [] w Q))))) : xWp (d + 1) m_Mv_saveToSpare 21 [xA 1 38, xI x1, xI x2] [] w Q := by
  refine x_goN 4 (pc' := if w 38 2 ≤ x2 then 66 else 29) (ls' := [xA 1 38, xI x1, xI x2]) (st' := []) (w' := w) rfl ?_
  refine x_br (fun c1 => ?_) (fun c1 => ?_)
  · skip
    exact x_ret (P := True) rfl trivial (h.1 c1)
  · skip
    refine x_goN 3 (pc' := 34) (ls' := [xA 1 38, xI x1, xI x2]) (st' := [xI x2, xI (w 38 3)]) (w' := w) rfl ?_
    refine x_call (y := m_Vp_inSet) (as := [xI (w 38 3), xI x2]) (rst := []) rfl [xI (w 38 3), xI x2] rfl ?_
    refine S_Vp_inSet (fun c2 => ?_) (fun c2 => ?_)
    · skip
      refine x_goN 1 (pc' := if (1 : Int32) = (0 : Int32) then 60 else 40) (ls' := [xA 1 38, xI x1, xI x2]) (st' := []) (w' := w) rfl ?_
      refine x_brF (by decide) ?_
      refine x_goN 3 (pc' := 45) (ls' := [xA 1 38, xI x1, xI x2]) (st' := [xI x2, xA 108 1217]) (w' := w) rfl ?_
      refine x_ob (P := vp_in x2 8) (pc' := 46) (ls' := [xA 1 38, xI x1, xI x2]) (st' := [xI (w 1217 x2.toNatClampNeg)]) (w' := w) rfl ((h.2 c1).1 c2).1 ?_
      refine x_goN 2 (pc' := if w 1217 x2.toNatClampNeg = x1 then 50 else 60) (ls' := [xA 1 38, xI x1, xI x2]) (st' := []) (w' := w) rfl ?_
      refine x_br (fun c3 => ?_) (fun c3 => ?_)
      · skip
        refine x_goN 5 (pc' := 59) (ls' := [xA 1 38, xI x1, xI x2]) (st' := [xI (w 38 2), xI x2, xA 108 1217]) (w' := w) rfl ?_
        refine x_obW (P := vp_in x2 8) (pc' := 60) (ls' := [xA 1 38, xI x1, xI x2]) (st' := []) (w' := x_set w 1217 x2.toNatClampNeg (w 38 2)) rfl (((h.2 c1).1 c2).2.1 c3).1 (fun w1 ew1 => ?_)
        refine x_goN 2 (pc' := 21) (ls' := [xA 1 38, xI x1, xI (x2 + 1)]) (st' := []) (w' := w1) rfl ?_
        exact ((((h.2 c1).1 c2).2.1 c3).2 w1 ew1)
      · skip
        refine x_goN 2 (pc' := 21) (ls' := [xA 1 38, xI x1, xI (x2 + 1)]) (st' := []) (w' := w) rfl ?_
        exact (((h.2 c1).1 c2).2.2 c3)
    · skip
      refine x_goN 1 (pc' := if (0 : Int32) = (0 : Int32) then 60 else 40) (ls' := [xA 1 38, xI x1, xI x2]) (st' := []) (w' := w) rfl ?_
      refine x_brT (by decide) ?_
      refine x_goN 2 (pc' := 21) (ls' := [xA 1 38, xI x1, xI (x2 + 1)]) (st' := []) (w' := w) rfl ?_
      exact ((h.2 c1).2 c2)
theorem L_Mv_saveToSpare {d n p : Nat} {g : Nat → Nat} {w0 : xWd} {Q : xMV → xWd → Prop} (hn : n ≤ 8) (hp : p < n) (hi : gIn n g) (a2 : w0 38 2 = nI n) (a3 : w0 38 3 = nI (g_op n g)) (h : ∀ w', (∀ a, a ≠ 1217 → w' a = w0 a) → (∀ q, q < n → g q ≠ q → w' 1217 q = nI (if g q = p then n else g q)) → Q xU w') : ∀ (m t : Nat) (w : xWd), t + m = n → (∀ a, a ≠ 1217 → w a = w0 a) → (∀ q, q < n → g q ≠ q → w 1217 q = nI (if q < t ∧ g q = p then n else g q)) → xWp (d + 1) m_Mv_saveToSpare 21 [xA 1 38, xI (nI p), xI (nI t)] [] w Q := by
  intro m
  induction m with
  | zero =>
    intro t w ht hf hv
    have e : t = n := by omega
    subst e
    refine G_Mv_saveToSpare_21 ?_
    rw [hf 38 (by decide), a2]
    refine ⟨fun _ => h w hf (fun q hq hne => ?_), fun c => absurd ((z_le (by omega) (by omega)).mpr (Nat.le_refl _)) c⟩
    rw [hv q hq hne]
    by_cases eq : g q = p
    · rw [if_pos ⟨hq, eq⟩, if_pos eq]
    · rw [if_neg (fun r => eq r.2), if_neg eq]
  | succ m ih =>
    intro t w ht hf hv
    have hlt : t < n := by omega
    have hgt := hi t hlt
    have skip : ¬ (g t ≠ t ∧ g t = p) → xWp (d + 1) m_Mv_saveToSpare 21 [xA 1 38, xI (nI p), xI (nI t + 1)] [] w Q := by
      intro hs
      rw [nI_1]
      refine ih (t + 1) w (by omega) hf (fun q hq hne => ?_)
      rw [hv q hq hne]
      by_cases eq : q = t
      · subst eq
        rw [if_neg (by omega), if_neg (fun r => hs ⟨hne, r.2⟩)]
      · by_cases e2 : q < t ∧ g q = p
        · rw [if_pos e2, if_pos ⟨by omega, e2.2⟩]
        · rw [if_neg e2, if_neg (fun r => e2 ⟨by omega, r.2⟩)]
    refine G_Mv_saveToSpare_21 ?_
    rw [hf 38 (by decide), a2, a3, z_cl' (by omega)]
    refine ⟨fun c => absurd ((z_le (by omega) (by omega)).mp c) (by omega), fun _ => ⟨fun c => ?_, fun c => skip (fun r => c ?_)⟩⟩
    · have hb := (z_bit' (g_op_lt hn g) (by omega)).mp c
      rw [g_op_tb, Bool.and_eq_true] at hb
      have hne := of_decide_eq_true hb.2
      have hvt := hv t hlt hne
      rw [if_neg (by omega)] at hvt
      rw [hvt, z_eq (by omega) (by omega)]
      refine ⟨z_in (by omega) (by decide), fun c2 => ⟨z_in (by omega) (by decide), fun w1 e1 => ?_⟩, fun c2 => skip (fun r => c2 r.2)⟩
      rw [nI_1]
      refine ih (t + 1) w1 (by omega) (fun a ha => by rw [e1, x_set_o ha]; exact hf a ha) (fun q hq hne' => ?_)
      rw [e1, x_set_s]
      by_cases eq : q = t
      · rw [eq, upd_s, if_pos ⟨by omega, c2⟩]
      · rw [upd_o eq, hv q hq hne']
        by_cases e2 : q < t ∧ g q = p
        · rw [if_pos e2, if_pos ⟨by omega, e2.2⟩]
        · rw [if_neg e2, if_neg (fun r => e2 ⟨by omega, r.2⟩)]
    · apply (z_bit' (g_op_lt hn g) (by omega)).mpr
      rw [g_op_tb, decide_eq_true hlt, decide_eq_true r.1]; rfl
theorem S_Mv_saveToSpare {d n p : Nat} {G : xGM} {w : xWd} {Q : xMV → xWd → Prop} (hn : n ≤ 8) (hp : p < n) (hg : G.1 p ≠ p) (hi : gIn n G.1) (hc : G.2.1 < 20) (hw : cMv w n G) (h : ∀ w', gMv w w' → cMv w' n (g_sa n G p) → Q xU w') : xWp (d + 1) m_Mv_saveToSpare 0 [xA 1 38, xI (nI p), xU] [] w Q := by
  obtain ⟨a2, a3, a4, a5, a6, a7⟩ := hw
  refine G_Mv_saveToSpare_0 ?_
  rw [a2]
  refine S_Mv_write hc a4 (fun w1 b1 b2 b3 b4 b5 => ?_)
  refine G_Mv_saveToSpare_9 (fun w2 e2 => ?_)
  rw [b3 5 (by decide), a5, nI_1] at e2
  have c2 : w2 38 2 = nI n := by rw [e2, x_set_s, upd_o (by decide), b3 2 (by decide)]; exact a2
  have c3 : w2 38 3 = nI (g_op n G.1) := by rw [e2, x_set_s, upd_o (by decide), b3 3 (by decide)]; exact a3
  refine L_Mv_saveToSpare hn hp hi c2 c3 (fun w3 f3 v3 => ?_) n 0 w2 (Nat.zero_add _) (fun _ _ => rfl) (fun q hq hne => ?_)
  · refine h w3 (fun q q1 q2 q3 => by rw [f3 q q2, e2, x_set_o q1, b1 q q1 q3]) ⟨?_, ?_, ?_, ?_, fun q hq hne => ?_, fun j hj => ?_⟩
    · rw [f3 38 (by decide)]; exact c2
    · rw [f3 38 (by decide), c3]
      congr 1
      unfold g_op
      exact z_mk_congr n (fun j hj => (g_sa_op hg hj).symm)
    · rw [f3 38 (by decide), e2, x_set_s, upd_o (by decide)]; exact b2
    · rw [f3 38 (by decide), e2, x_set_s, upd_s]; rfl
    · have hd := g_sa_op (n := n) hg hq
      have hne' : G.1 q ≠ q := by
        rw [decide_eq_true hne] at hd
        exact of_decide_eq_true hd.symm
      exact v3 q hq hne'
    · have hj' : j < G.2.1 + 1 := hj
      show w3 1218 j = nI (if j = G.2.1 then 10 * n + p else G.2.2.2 j)
      rw [f3 1218 (by decide), e2, x_set_o (by decide)]
      by_cases ej : j = G.2.1
      · rw [if_pos ej, ej]; exact b4
      · rw [if_neg ej, b5 j ej]; exact a7 j (by omega)
  · rw [if_neg (by omega), e2, x_set_o (by decide), b1 1217 (by decide) (by decide)]
    exact a6 q hq hne
theorem G_Mv_allWanted_0 {d : Nat} {w : xWd} {Q : xMV → xWd → Prop} (h : xWp (d + 1) m_Mv_allWanted 4 [xA 1 38, xI 0, xI 0] [] w Q) : xWp (d + 1) m_Mv_allWanted 0 [xA 1 38, xU, xU] [] w Q := by
  refine x_goN 4 (pc' := 4) (ls' := [xA 1 38, xI 0, xI 0]) (st' := []) (w' := w) rfl ?_
  exact h
theorem G_Mv_allWanted_4 {d : Nat} {x1 : Int32} {x2 : Int32} {w : xWd} {Q : xMV → xWd → Prop} (h : ((w 38 2 ≤ x2 → Q (xI x1) w) ∧ (¬ (w 38 2 ≤ x2) → ((p_in (w 38 3) x2 → (vp_in x2 8 ∧ xWp (d + 1) m_Mv_allWanted 4 [xA 1 38, xI (x1 ||| ((1 : Int32) <<< ((w 1217 x2.toNatClampNeg) &&& 31))), xI (x2 + 1)] [] w Q)) ∧ (¬ (p_in (w 38 3) x2) → xWp (d + 1) m_Mv_allWanted 4 [xA 1 38, xI x1, xI (x2 + 1)] [] w Q))))) : xWp (d + 1) m_Mv_allWanted 4 [xA 1 38, xI x1, xI x2] [] w Q := by
  refine x_goN 4 (pc' := if w 38 2 ≤ x2 then 40 else 12) (ls' := [xA 1 38, xI x1, xI x2]) (st' := []) (w' := w) rfl ?_
  refine x_br (fun c1 => ?_) (fun c1 => ?_)
  · skip
    refine x_goN 1 (pc' := 41) (ls' := [xA 1 38, xI x1, xI x2]) (st' := [xI x1]) (w' := w) rfl ?_
    exact x_ret (P := True) rfl trivial (h.1 c1)
  · skip
    refine x_goN 3 (pc' := 17) (ls' := [xA 1 38, xI x1, xI x2]) (st' := [xI x2, xI (w 38 3)]) (w' := w) rfl ?_
    refine x_call (y := m_Vp_inSet) (as := [xI (w 38 3), xI x2]) (rst := []) rfl [xI (w 38 3), xI x2] rfl ?_
    refine S_Vp_inSet (fun c2 => ?_) (fun c2 => ?_)
    · skip
      refine x_goN 1 (pc' := if (1 : Int32) = (0 : Int32) then 34 else 23) (ls' := [xA 1 38, xI x1, xI x2]) (st' := []) (w' := w) rfl ?_
      refine x_brF (by decide) ?_
      refine x_goN 5 (pc' := 30) (ls' := [xA 1 38, xI x1, xI x2]) (st' := [xI x2, xA 108 1217, xI 1, xI x1]) (w' := w) rfl ?_
      refine x_ob (P := vp_in x2 8) (pc' := 31) (ls' := [xA 1 38, xI x1, xI x2]) (st' := [xI (w 1217 x2.toNatClampNeg), xI 1, xI x1]) (w' := w) rfl ((h.2 c1).1 c2).1 ?_
      refine x_goN 5 (pc' := 4) (ls' := [xA 1 38, xI (x1 ||| ((1 : Int32) <<< ((w 1217 x2.toNatClampNeg) &&& 31))), xI (x2 + 1)]) (st' := []) (w' := w) rfl ?_
      exact ((h.2 c1).1 c2).2
    · skip
      refine x_goN 1 (pc' := if (0 : Int32) = (0 : Int32) then 34 else 23) (ls' := [xA 1 38, xI x1, xI x2]) (st' := []) (w' := w) rfl ?_
      refine x_brT (by decide) ?_
      refine x_goN 2 (pc' := 4) (ls' := [xA 1 38, xI x1, xI (x2 + 1)]) (st' := []) (w' := w) rfl ?_
      exact ((h.2 c1).2 c2)
def g_aw (n : Nat) (g : Nat → Nat) (t : Nat) : Nat := z_mk 9 (fun v => z_any t (fun q => decide (g q ≠ q) && decide (g q = v)))
theorem g_aw_s {n t : Nat} {g : Nat → Nat} (hv : g t < 9) (hne : g t ≠ t) : nI (g_aw n g t) ||| nI (2 ^ g t) = nI (g_aw n g (t + 1)) := by
  rw [fa_or]
  congr 1
  apply Nat.eq_of_testBit_eq
  intro i
  unfold g_aw
  rw [Nat.testBit_or, z_mk_tb, z_mk_tb, Nat.testBit_two_pow]
  show _ = (decide (i < 9) && (z_any t _ || (decide (g t ≠ t) && decide (g t = i))))
  rw [decide_eq_true hne, Bool.true_and]
  by_cases hi : i < 9
  · rw [decide_eq_true hi, Bool.true_and, Bool.true_and]
  · rw [decide_eq_false hi, Bool.false_and, Bool.false_and, Bool.false_or]
    exact decide_eq_false (by omega)
theorem g_aw_n {n t : Nat} {g : Nat → Nat} (h : ¬ g t ≠ t) : g_aw n g t = g_aw n g (t + 1) := by
  unfold g_aw
  apply z_mk_congr
  intro j _
  show _ = (z_any t _ || (decide (g t ≠ t) && _))
  rw [decide_eq_false h, Bool.false_and, Bool.or_false]
theorem g_aw_df {n : Nat} (hn : n ≤ 8) (g : Nat → Nat) : z_df (g_op n g) (g_aw n g n) = g_fr n g := by
  apply z_ext (z_df_lt _ _) (g_fr_lt hn g)
  intro j hj
  rw [z_df_tb hj, g_op_tb, g_fr_tb]
  unfold g_aw
  rw [z_mk_tb, decide_eq_true (show j < 9 by omega), Bool.true_and, Bool.and_assoc]
  rfl
theorem L_Mv_allWanted {d n : Nat} {G : xGM} {w : xWd} {Q : xMV → xWd → Prop} (hn : n ≤ 8) (hi : gIn n G.1) (hw : cMv w n G) (h : Q (xI (nI (g_aw n G.1 n))) w) : ∀ m t : Nat, t + m = n → xWp (d + 1) m_Mv_allWanted 4 [xA 1 38, xI (nI (g_aw n G.1 t)), xI (nI t)] [] w Q := by
  obtain ⟨a2, a3, a4, a5, a6, a7⟩ := hw
  intro m
  induction m with
  | zero =>
    intro t ht
    have e : t = n := by omega
    subst e
    refine G_Mv_allWanted_4 ?_
    rw [a2]
    exact ⟨fun _ => h, fun c => absurd ((z_le (by omega) (by omega)).mpr (Nat.le_refl _)) c⟩
  | succ m ih =>
    intro t ht
    have hlt : t < n := by omega
    have hgt := hi t hlt
    refine G_Mv_allWanted_4 ?_
    rw [a2, a3, z_cl' (by omega), nI_1]
    refine ⟨fun c => absurd ((z_le (by omega) (by omega)).mp c) (by omega), fun _ => ⟨fun c => ⟨z_in (by omega) (by decide), ?_⟩, fun c => ?_⟩⟩
    · have hb := (z_bit' (g_op_lt hn G.1) (by omega)).mp c
      rw [g_op_tb, Bool.and_eq_true] at hb
      have hne := of_decide_eq_true hb.2
      rw [a6 t hlt hne, z_shl _ (by omega), g_aw_s (by omega) hne]
      exact ih (t + 1) (by omega)
    · have hne : ¬ G.1 t ≠ t := fun r => c ((z_bit' (g_op_lt hn G.1) (by omega)).mpr (by rw [g_op_tb, decide_eq_true hlt, decide_eq_true r]; rfl))
      rw [g_aw_n hne]
      exact ih (t + 1) (by omega)
theorem G_Mv_makeAll_0 {d : Nat} {w : xWd} {Q : xMV → xWd → Prop} (h : (∀ w1 : xWd, w1 = x_set w 38 4 0 → (∀ w2 : xWd, w2 = x_set w1 38 5 0 → xWp (d + 2) m_Mv_makeAll 12 [xA 1 38, xI 0, xU] [] w2 Q))) : xWp (d + 2) m_Mv_makeAll 0 [xA 1 38, xU, xU] [] w Q := by
  refine x_goN 2 (pc' := 2) (ls' := [xA 1 38, xU, xU]) (st' := [xI 0, xA 1 38]) (w' := w) rfl ?_
  refine x_goW (pc' := 5) (ls' := [xA 1 38, xU, xU]) (st' := []) (w' := x_set w 38 4 0) rfl (fun w1 ew1 => ?_)
  refine x_goN 2 (pc' := 7) (ls' := [xA 1 38, xU, xU]) (st' := [xI 0, xA 1 38]) (w' := w1) rfl ?_
  refine x_goW (pc' := 10) (ls' := [xA 1 38, xU, xU]) (st' := []) (w' := x_set w1 38 5 0) rfl (fun w2 ew2 => ?_)
  refine x_goN 2 (pc' := 12) (ls' := [xA 1 38, xI 0, xU]) (st' := []) (w' := w2) rfl ?_
  exact ((h w1 ew1) w2 ew2)
theorem G_Mv_makeAll_12 {d : Nat} {x1 : Int32} {w : xWd} {Q : xMV → xWd → Prop} (h : ((20 ≤ x1 → Q xU w) ∧ (¬ (20 ≤ x1) → ((w 38 3 = 0 → Q xU w) ∧ (¬ (w 38 3 = 0) → xWp (d + 1) m_Mv_allWanted 0 [xA 1 38, xU, xU] [] w (fun a w' => xWp (d + 2) m_Mv_makeAll 33 [xA 1 38, xI x1, xU] (x_pu a [xI (w 38 3)]) w' Q)))))) : xWp (d + 2) m_Mv_makeAll 12 [xA 1 38, xI x1, xU] [] w Q := by
  refine x_goN 3 (pc' := if 20 ≤ x1 then 69 else 18) (ls' := [xA 1 38, xI x1, xU]) (st' := []) (w' := w) rfl ?_
  refine x_br (fun c1 => ?_) (fun c1 => ?_)
  · skip
    exact x_ret (P := True) rfl trivial (h.1 c1)
  · skip
    refine x_goN 3 (pc' := if w 38 3 = 0 then 69 else 25) (ls' := [xA 1 38, xI x1, xU]) (st' := []) (w' := w) rfl ?_
    refine x_br (fun c2 => ?_) (fun c2 => ?_)
    · skip
      exact x_ret (P := True) rfl trivial ((h.2 c1).1 c2)
    · skip
      refine x_goN 3 (pc' := 30) (ls' := [xA 1 38, xI x1, xU]) (st' := [xA 1 38, xI (w 38 3)]) (w' := w) rfl ?_
      refine x_call (y := m_Mv_allWanted) (as := [xA 1 38]) (rst := [xI (w 38 3)]) rfl [xA 1 38, xU, xU] rfl ?_
      exact ((h.2 c1).2 c2)
theorem G_Mv_makeAll_33 {d : Nat} {x1 : Int32} {s1 : Int32} {s0 : Int32} {w : xWd} {Q : xMV → xWd → Prop} (h : ((s0 &&& (s1 ^^^ (-1)) = 0 → xWp (d + 1) m_Jn_numberOfTrailingZeros 0 [xI (w 38 3), xU] [] w (fun a w' => xWp (d + 2) m_Mv_makeAll 60 [xA 1 38, xI x1, xI (s0 &&& (s1 ^^^ (-1)))] (x_pu a [xA 1 38]) w' Q)) ∧ (¬ (s0 &&& (s1 ^^^ (-1)) = 0) → xWp (d + 1) m_Jn_numberOfTrailingZeros 0 [xI (s0 &&& (s1 ^^^ (-1))), xU] [] w (fun a w' => xWp (d + 2) m_Mv_makeAll 46 [xA 1 38, xI x1, xI (s0 &&& (s1 ^^^ (-1)))] (x_pu a [xA 1 38]) w' Q)))) : xWp (d + 2) m_Mv_makeAll 33 [xA 1 38, xI x1, xU] [xI s1, xI s0] w Q := by
  refine x_goN 6 (pc' := if s0 &&& (s1 ^^^ (-1)) = 0 then 52 else 41) (ls' := [xA 1 38, xI x1, xI (s0 &&& (s1 ^^^ (-1)))]) (st' := []) (w' := w) rfl ?_
  refine x_br (fun c1 => ?_) (fun c1 => ?_)
  · skip
    refine x_goN 3 (pc' := 57) (ls' := [xA 1 38, xI x1, xI (s0 &&& (s1 ^^^ (-1)))]) (st' := [xI (w 38 3), xA 1 38]) (w' := w) rfl ?_
    refine x_call (y := m_Jn_numberOfTrailingZeros) (as := [xI (w 38 3)]) (rst := [xA 1 38]) rfl [xI (w 38 3), xU] rfl ?_
    exact (h.1 c1)
  · skip
    refine x_goN 2 (pc' := 43) (ls' := [xA 1 38, xI x1, xI (s0 &&& (s1 ^^^ (-1)))]) (st' := [xI (s0 &&& (s1 ^^^ (-1))), xA 1 38]) (w' := w) rfl ?_
    refine x_call (y := m_Jn_numberOfTrailingZeros) (as := [xI (s0 &&& (s1 ^^^ (-1)))]) (rst := [xA 1 38]) rfl [xI (s0 &&& (s1 ^^^ (-1))), xU] rfl ?_
    exact (h.2 c1)
theorem G_Mv_makeAll_46 {d : Nat} {x1 : Int32} {x2 : Int32} {s1 : Int32} {w : xWd} {Q : xMV → xWd → Prop} (h : xWp (d + 1) m_Mv_fill 0 [xA 1 38, xI s1] [] w (fun a w' => xWp (d + 2) m_Mv_makeAll 49 [xA 1 38, xI x1, xI x2] (x_pu a []) w' Q)) : xWp (d + 2) m_Mv_makeAll 46 [xA 1 38, xI x1, xI x2] [xI s1, xA 1 38] w Q := by
  refine x_call (y := m_Mv_fill) (as := [xA 1 38, xI s1]) (rst := []) rfl [xA 1 38, xI s1] rfl ?_
  exact h
theorem G_Mv_makeAll_49 {d : Nat} {x1 : Int32} {x2 : Int32} {w : xWd} {Q : xMV → xWd → Prop} (h : xWp (d + 2) m_Mv_makeAll 63 [xA 1 38, xI x1, xI x2] [] w Q) : xWp (d + 2) m_Mv_makeAll 49 [xA 1 38, xI x1, xI x2] [] w Q := by
  refine x_goN 1 (pc' := 63) (ls' := [xA 1 38, xI x1, xI x2]) (st' := []) (w' := w) rfl ?_
  exact h
theorem G_Mv_makeAll_60 {d : Nat} {x1 : Int32} {x2 : Int32} {s1 : Int32} {w : xWd} {Q : xMV → xWd → Prop} (h : xWp (d + 1) m_Mv_saveToSpare 0 [xA 1 38, xI s1, xU] [] w (fun a w' => xWp (d + 2) m_Mv_makeAll 63 [xA 1 38, xI x1, xI x2] (x_pu a []) w' Q)) : xWp (d + 2) m_Mv_makeAll 60 [xA 1 38, xI x1, xI x2] [xI s1, xA 1 38] w Q := by
  refine x_call (y := m_Mv_saveToSpare) (as := [xA 1 38, xI s1]) (rst := []) rfl [xA 1 38, xI s1, xU] rfl ?_
  exact h
theorem G_Mv_makeAll_63 {d : Nat} {x1 : Int32} {x2 : Int32} {w : xWd} {Q : xMV → xWd → Prop} (h : xWp (d + 2) m_Mv_makeAll 12 [xA 1 38, xI (x1 + 1), xU] [] w Q) : xWp (d + 2) m_Mv_makeAll 63 [xA 1 38, xI x1, xI x2] [] w Q := by
  refine x_goN 2 (pc' := 12) (ls' := [xA 1 38, xI (x1 + 1), xI x2]) (st' := []) (w' := w) rfl ?_
  exact x_weak (h) ⟨Or.inl rfl, Or.inl rfl, Or.inr ⟨rfl, rfl⟩, trivial⟩
theorem L_Mv_makeAll {d n : Nat} {w0 : xWd} {Q : xMV → xWd → Prop} (hn : n ≤ 8) : ∀ (f : Nat) (G : xGM) (w : xWd), g_mu n G.1 ≤ f → G.2.1 + g_mu n G.1 ≤ 17 → gIn n G.1 → gMv w0 w → cMv w n G → (∀ w', gMv w0 w' → cMv w' n (g_run n f G) → Q xU w') → xWp (d + 2) m_Mv_makeAll 12 [xA 1 38, xI (nI G.2.1), xU] [] w Q := by
  intro f
  induction f with
  | zero =>
    intro G w hf hc hi hg hw h
    have ho : g_op n G.1 = 0 := by
      apply Classical.byContradiction
      intro ho
      have := g_mu_ge ho
      omega
    refine G_Mv_makeAll_12 ?_
    rw [hw.2.1, ho]
    exact ⟨fun _ => h w hg hw, fun _ => ⟨fun _ => h w hg hw, fun c => absurd rfl c⟩⟩
  | succ f ih =>
    intro G w hf hc hi hg hw h
    by_cases ho : g_op n G.1 = 0
    · rw [g_run_0 ho] at h
      refine G_Mv_makeAll_12 ?_
      rw [hw.2.1, ho]
      exact ⟨fun _ => h w hg hw, fun _ => ⟨fun _ => h w hg hw, fun c => absurd rfl c⟩⟩
    · rw [g_run_s ho] at h
      have hmu := g_mu_ge ho
      obtain ⟨s1, s2, s3⟩ := g_st_ok hn hi ho
      have hop := g_op_lt hn G.1
      refine G_Mv_makeAll_12 ⟨fun c => absurd ((z_le (a := 20) (by decide) (by omega)).mp c) (by omega), fun _ => ⟨fun c => ?_, fun _ => ?_⟩⟩
      · rw [hw.2.1] at c
        exact absurd ((z_eq0 (by omega)).mp c) ho
      · have ea : (0 : Int32) = nI (g_aw n G.1 0) := by rw [show g_aw n G.1 0 = 0 from z_mk_0 9]; rfl
        refine G_Mv_allWanted_0 ?_
        have key := L_Mv_allWanted (d := d) (Q := fun a w' => xWp (d + 2) m_Mv_makeAll 33 [xA 1 38, xI (nI G.2.1), xU] (x_pu a [xI (w 38 3)]) w' Q) hn hi hw ?_ n 0 (Nat.zero_add _)
        · rw [← ea] at key; exact key
        · refine G_Mv_makeAll_33 ?_
          rw [hw.2.1, z_df_ok hop, g_aw_df hn, z_eq0 (by have := g_fr_lt hn G.1; omega)]
          refine ⟨fun hz => ?_, fun hz => ?_⟩
          · obtain ⟨p1, p2⟩ := g_op_p hn ho
            obtain ⟨t1, t2⟩ := z_tz_ok _ hop ho
            refine S_tz (by omega) t1 ?_
            refine G_Mv_makeAll_60 (S_Mv_saveToSpare hn p1 p2 hi (by omega) hw (fun w1 g1 h1 => ?_))
            refine G_Mv_makeAll_63 ?_
            have est : g_st n G = g_sa n G (z_tz (g_op n G.1)) := if_pos hz
            rw [← est] at h1
            have := ih (g_st n G) w1 (by omega) (by omega) s1 (gMv_tr hg g1) h1 h
            rw [s3] at this
            rw [nI_1]; exact this
          · obtain ⟨p1, p2, p3⟩ := g_fr_p hn hz
            obtain ⟨t1, t2⟩ := z_tz_ok _ (g_fr_lt hn G.1) hz
            refine S_tz (by omega) t1 ?_
            refine G_Mv_makeAll_46 (S_Mv_fill hn p1 p2 hi (by omega) hw (fun w1 g1 h1 => ?_))
            refine G_Mv_makeAll_49 (G_Mv_makeAll_63 ?_)
            have est : g_st n G = g_fi G (z_tz (g_fr n G.1)) := if_neg hz
            rw [← est] at h1
            have := ih (g_st n G) w1 (by omega) (by omega) s1 (gMv_tr hg g1) h1 h
            rw [s3] at this
            rw [nI_1]; exact this

