/-! READINGS TAKEN AND GIVEN BACK -/
def uRt (s : xS) (j c : Nat) : xS := uR s (r_n s + 1) (fun q => if q = r_n s then j else r_v s q) (fun q => if q = r_n s then c else r_c s q)
theorem uRt_ok {s : xS} {j c : Nat} (h : sOk s) (hj : j < tn (s_T s)) (hc : c ≤ 20) (hn : r_n s < 8) : r_n s + 1 ≤ 8 ∧ ∀ q, q < r_n s + 1 → (if q = r_n s then j else r_v s q) < tn (s_T s) ∧ (if q = r_n s then c else r_c s q) ≤ 20 := by
  refine ⟨hn, fun q hq => ?_⟩
  by_cases e : q = r_n s
  · rw [if_pos e, if_pos e]; exact ⟨hj, hc⟩
  · rw [if_neg e, if_neg e]; exact h.2.2.2 q (by omega)
theorem G_Rd_take_0 {d : Nat} {x1 : Int32} {x2 : Int32} {w : xWd} {Q : xMV → xWd → Prop} (h : ((8 ≤ w 39 2 → Q xU w) ∧ (¬ (8 ≤ w 39 2) → (vp_in (w 39 2) 8 ∧ ∀ w1 : xWd, w1 = x_set w 1249 ((w 39 2).toNatClampNeg) x1 → (vp_in (w1 39 2) 8 ∧ ∀ w2 : xWd, w2 = x_set w1 1250 ((w1 39 2).toNatClampNeg) x2 → (∀ w3 : xWd, w3 = x_set w2 39 2 ((w2 39 2) + 1) → Q xU w3)))))) : xWp d m_Rd_take 0 [xA 2 39, xI x1, xI x2] [] w Q := by
  refine x_goN 4 (pc' := if 8 ≤ w 39 2 then 39 else 9) (ls' := [xA 2 39, xI x1, xI x2]) (st' := []) (w' := w) rfl ?_
  refine x_br (fun c1 => ?_) (fun c1 => ?_)
  · skip
    exact x_ret (P := True) rfl trivial (h.1 c1)
  · skip
    refine x_goN 5 (pc' := 18) (ls' := [xA 2 39, xI x1, xI x2]) (st' := [xI x1, xI (w 39 2), xA 108 1249]) (w' := w) rfl ?_
    refine x_obW (P := vp_in (w 39 2) 8) (pc' := 19) (ls' := [xA 2 39, xI x1, xI x2]) (st' := []) (w' := x_set w 1249 ((w 39 2).toNatClampNeg) x1) rfl (h.2 c1).1 (fun w1 ew1 => ?_)
    refine x_goN 5 (pc' := 28) (ls' := [xA 2 39, xI x1, xI x2]) (st' := [xI x2, xI (w1 39 2), xA 108 1250]) (w' := w1) rfl ?_
    refine x_obW (P := vp_in (w1 39 2) 8) (pc' := 29) (ls' := [xA 2 39, xI x1, xI x2]) (st' := []) (w' := x_set w1 1250 ((w1 39 2).toNatClampNeg) x2) rfl ((h.2 c1).2 w1 ew1).1 (fun w2 ew2 => ?_)
    refine x_goN 5 (pc' := 36) (ls' := [xA 2 39, xI x1, xI x2]) (st' := [xI ((w2 39 2) + 1), xA 2 39]) (w' := w2) rfl ?_
    refine x_goW (pc' := 39) (ls' := [xA 2 39, xI x1, xI x2]) (st' := []) (w' := x_set w2 39 2 ((w2 39 2) + 1)) rfl (fun w3 ew3 => ?_)
    exact x_ret (P := True) rfl trivial ((((h.2 c1).2 w1 ew1).2 w2 ew2) w3 ew3)
theorem S_Rd_take {d j c : Nat} {s : xS} {w : xWd} {Q : xMV → xWd → Prop} (h : sC s w) (hj : j < tn (s_T s)) (hc : c ≤ 20) (hn : r_n s < 8) (hq : ∀ w', sC (uRt s j c) w' → fC w w' → Q xU w') : xWp d m_Rd_take 0 [xA 2 39, xI (nI j), xI (nI c)] [] w Q := by
  obtain ⟨hr1, hr2⟩ := h.2.2.2.1
  have hc8 : ¬ (8 : Int32) ≤ nI (r_n s) := fun q => by
    have := (z_le (a := 8) (by decide) (by omega)).mp q
    omega
  refine G_Rd_take_0 ?_
  rw [hr1]
  refine ⟨fun q => absurd q hc8, fun _ => ⟨z_in hn (by decide), fun w1 e1 => ?_⟩⟩
  have a1 : w1 39 2 = nI (r_n s) := by rw [e1, x_set_o (by decide)]; exact hr1
  rw [a1]
  refine ⟨z_in hn (by decide), fun w2 e2 => fun w3 e3 => ?_⟩
  have a2 : w2 39 2 = nI (r_n s) := by rw [e2, x_set_o (by decide)]; exact a1
  rw [a2, nI_1] at e3
  rw [z_cl' (by omega)] at e1 e2
  refine hq w3 (sC_rd h (uRt_ok h.1 hj hc hn) (fun a b1 b2 b3 => ?_) ⟨?_, fun q hq => ?_⟩) (fun a ha => ?_)
  · rw [e3, x_set_o b1, e2, x_set_o b3, e1, x_set_o b2]
  · rw [e3, x_set_s, upd_s]; rfl
  · have hq' : q < r_n s + 1 := hq
    show w3 1249 q = nI (if q = r_n s then j else r_v s q) ∧ w3 1250 q = nI (if q = r_n s then c else r_c s q)
    rw [e3, x_set_o (by decide), x_set_o (by decide), e2, x_set_s, x_set_o (by decide), e1, x_set_s, x_set_o (by decide)]
    by_cases e : q = r_n s
    · rw [if_pos e, if_pos e, e, upd_s, upd_s]; exact ⟨rfl, rfl⟩
    · rw [if_neg e, if_neg e, upd_o e, upd_o e]; exact hr2 q (by omega)
  · rw [e3, x_set_o (by omega), e2, x_set_o (by omega), e1, x_set_o (by omega)]
theorem G_Vp_reading_0 {d : Nat} {x1 : Int32} {x2 : Int32} {w : xWd} {Q : xMV → xWd → Prop} (h : ((p_lt x1 (w 34 8) → ((x2 < 0 → Q (xI (-2)) w) ∧ (¬ (x2 < 0) → ((x2 ≤ 20 → ((w 39 2 < 8 → xWp d m_Rd_take 0 [xA 2 39, xI x1, xI x2] [] w (fun a w' => xWp (d + 1) m_Vp_reading 58 [xA 6 1, xI x1, xI x2, xI (w 39 2)] (x_pu a []) w' Q)) ∧ (¬ (w 39 2 < 8) → Q (xI (-4)) w))) ∧ (¬ (x2 ≤ 20) → Q (xI (-2)) w))))) ∧ (¬ (p_lt x1 (w 34 8)) → Q (xI (-1)) w))) : xWp (d + 1) m_Vp_reading 0 [xA 6 1, xI x1, xI x2, xU] [] w Q := by
  refine x_goN 3 (pc' := 5) (ls' := [xA 6 1, xI x1, xI x2, xU]) (st' := [xI x1, xA 5 34]) (w' := w) rfl ?_
  refine x_call (y := m_Tr_isLine) (as := [xA 5 34, xI x1]) (rst := []) rfl [xA 5 34, xI x1] rfl ?_
  refine S_Tr_isLine (fun c1 => ?_) (fun c1 => ?_)
  · skip
    refine x_goN 1 (pc' := if (1 : Int32) = (0 : Int32) then 11 else 13) (ls' := [xA 6 1, xI x1, xI x2, xU]) (st' := []) (w' := w) rfl ?_
    refine x_brF (by decide) ?_
    refine x_goN 2 (pc' := if x2 < 0 then 23 else 17) (ls' := [xA 6 1, xI x1, xI x2, xU]) (st' := []) (w' := w) rfl ?_
    refine x_br (fun c2 => ?_) (fun c2 => ?_)
    · skip
      refine x_goN 1 (pc' := 25) (ls' := [xA 6 1, xI x1, xI x2, xU]) (st' := [xI (-2)]) (w' := w) rfl ?_
      exact x_ret (P := True) rfl trivial ((h.1 c1).1 c2)
    · skip
      refine x_goN 3 (pc' := if x2 ≤ 20 then 26 else 23) (ls' := [xA 6 1, xI x1, xI x2, xU]) (st' := []) (w' := w) rfl ?_
      refine x_br (fun c3 => ?_) (fun c3 => ?_)
      · skip
        refine x_goN 5 (pc' := if w 39 2 < 8 then 41 else 38) (ls' := [xA 6 1, xI x1, xI x2, xU]) (st' := []) (w' := w) rfl ?_
        refine x_br (fun c4 => ?_) (fun c4 => ?_)
        · skip
          refine x_goN 8 (pc' := 55) (ls' := [xA 6 1, xI x1, xI x2, xI (w 39 2)]) (st' := [xI x2, xI x1, xA 2 39]) (w' := w) rfl ?_
          refine x_call (y := m_Rd_take) (as := [xA 2 39, xI x1, xI x2]) (rst := []) rfl [xA 2 39, xI x1, xI x2] rfl ?_
          exact ((((h.1 c1).2 c2).1 c3).1 c4)
        · skip
          refine x_goN 1 (pc' := 40) (ls' := [xA 6 1, xI x1, xI x2, xU]) (st' := [xI (-4)]) (w' := w) rfl ?_
          exact x_ret (P := True) rfl trivial ((((h.1 c1).2 c2).1 c3).2 c4)
      · skip
        refine x_goN 1 (pc' := 25) (ls' := [xA 6 1, xI x1, xI x2, xU]) (st' := [xI (-2)]) (w' := w) rfl ?_
        exact x_ret (P := True) rfl trivial (((h.1 c1).2 c2).2 c3)
  · skip
    refine x_goN 1 (pc' := if (0 : Int32) = (0 : Int32) then 11 else 13) (ls' := [xA 6 1, xI x1, xI x2, xU]) (st' := []) (w' := w) rfl ?_
    refine x_brT (by decide) ?_
    refine x_goN 1 (pc' := 12) (ls' := [xA 6 1, xI x1, xI x2, xU]) (st' := [xI (-1)]) (w' := w) rfl ?_
    exact x_ret (P := True) rfl trivial (h.2 c1)
theorem G_Vp_reading_58 {d : Nat} {x1 : Int32} {x2 : Int32} {x3 : Int32} {w : xWd} {Q : xMV → xWd → Prop} (h : Q (xI x3) w) : xWp (d + 1) m_Vp_reading 58 [xA 6 1, xI x1, xI x2, xI x3] [] w Q := by
  refine x_goN 1 (pc' := 59) (ls' := [xA 6 1, xI x1, xI x2, xI x3]) (st' := [xI x3]) (w' := w) rfl ?_
  exact x_ret (P := True) rfl trivial h
theorem G_Md_reading_0 {d : Nat} {x1 : Int32} {x2 : Int32} {w : xWd} {Q : xMV → xWd → Prop} (h : ((p_lt x1 (w 2 5) → ((p_wi x2 0 20 → ((w 2 26 = 8 → Q (xI (-4)) w) ∧ (¬ (w 2 26 = 8) → (vp_in (w 2 26) 8 ∧ ∀ w1 : xWd, w1 = x_set w 92 ((w 2 26).toNatClampNeg) x1 → (vp_in (w1 2 26) 8 ∧ ∀ w2 : xWd, w2 = x_set w1 93 ((w1 2 26).toNatClampNeg) x2 → (∀ w3 : xWd, w3 = x_set w2 2 26 ((w2 2 26) + 1) → Q (xI ((w3 2 26) - 1)) w3)))))) ∧ (¬ (p_wi x2 0 20) → Q (xI (-2)) w))) ∧ (¬ (p_lt x1 (w 2 5)) → Q (xI (-1)) w))) : xWp (d + 1) m_Md_reading 0 [xA 7 2, xI x1, xI x2] [] w Q := by
  refine x_goN 2 (pc' := 2) (ls' := [xA 7 2, xI x1, xI x2]) (st' := [xI x1, xA 7 2]) (w' := w) rfl ?_
  refine x_call (y := m_Md_isLine) (as := [xA 7 2, xI x1]) (rst := []) rfl [xA 7 2, xI x1] rfl ?_
  refine S_Md_isLine (fun c1 => ?_) (fun c1 => ?_)
  · skip
    refine x_goN 1 (pc' := if (1 : Int32) = (0 : Int32) then 8 else 10) (ls' := [xA 7 2, xI x1, xI x2]) (st' := []) (w' := w) rfl ?_
    refine x_brF (by decide) ?_
    refine x_goN 3 (pc' := 14) (ls' := [xA 7 2, xI x1, xI x2]) (st' := [xI 20, xI 0, xI x2]) (w' := w) rfl ?_
    refine x_call (y := m_Md_within) (as := [xI x2, xI 0, xI 20]) (rst := []) rfl [xI x2, xI 0, xI 20] rfl ?_
    refine S_Md_within (fun c2 => ?_) (fun c2 => ?_)
    · skip
      refine x_goN 1 (pc' := if (1 : Int32) = (0 : Int32) then 20 else 23) (ls' := [xA 7 2, xI x1, xI x2]) (st' := []) (w' := w) rfl ?_
      refine x_brF (by decide) ?_
      refine x_goN 4 (pc' := if w 2 26 = 8 then 32 else 35) (ls' := [xA 7 2, xI x1, xI x2]) (st' := []) (w' := w) rfl ?_
      refine x_br (fun c3 => ?_) (fun c3 => ?_)
      · skip
        refine x_goN 1 (pc' := 34) (ls' := [xA 7 2, xI x1, xI x2]) (st' := [xI (-4)]) (w' := w) rfl ?_
        exact x_ret (P := True) rfl trivial (((h.1 c1).1 c2).1 c3)
      · skip
        refine x_goN 5 (pc' := 44) (ls' := [xA 7 2, xI x1, xI x2]) (st' := [xI x1, xI (w 2 26), xA 108 92]) (w' := w) rfl ?_
        refine x_obW (P := vp_in (w 2 26) 8) (pc' := 45) (ls' := [xA 7 2, xI x1, xI x2]) (st' := []) (w' := x_set w 92 ((w 2 26).toNatClampNeg) x1) rfl (((h.1 c1).1 c2).2 c3).1 (fun w1 ew1 => ?_)
        refine x_goN 5 (pc' := 54) (ls' := [xA 7 2, xI x1, xI x2]) (st' := [xI x2, xI (w1 2 26), xA 108 93]) (w' := w1) rfl ?_
        refine x_obW (P := vp_in (w1 2 26) 8) (pc' := 55) (ls' := [xA 7 2, xI x1, xI x2]) (st' := []) (w' := x_set w1 93 ((w1 2 26).toNatClampNeg) x2) rfl ((((h.1 c1).1 c2).2 c3).2 w1 ew1).1 (fun w2 ew2 => ?_)
        refine x_goN 5 (pc' := 62) (ls' := [xA 7 2, xI x1, xI x2]) (st' := [xI ((w2 2 26) + 1), xA 7 2]) (w' := w2) rfl ?_
        refine x_goW (pc' := 65) (ls' := [xA 7 2, xI x1, xI x2]) (st' := []) (w' := x_set w2 2 26 ((w2 2 26) + 1)) rfl (fun w3 ew3 => ?_)
        refine x_goN 4 (pc' := 71) (ls' := [xA 7 2, xI x1, xI x2]) (st' := [xI ((w3 2 26) - 1)]) (w' := w3) rfl ?_
        exact x_ret (P := True) rfl trivial ((((((h.1 c1).1 c2).2 c3).2 w1 ew1).2 w2 ew2) w3 ew3)
    · skip
      refine x_goN 1 (pc' := if (0 : Int32) = (0 : Int32) then 20 else 23) (ls' := [xA 7 2, xI x1, xI x2]) (st' := []) (w' := w) rfl ?_
      refine x_brT (by decide) ?_
      refine x_goN 1 (pc' := 22) (ls' := [xA 7 2, xI x1, xI x2]) (st' := [xI (-2)]) (w' := w) rfl ?_
      exact x_ret (P := True) rfl trivial ((h.1 c1).2 c2)
  · skip
    refine x_goN 1 (pc' := if (0 : Int32) = (0 : Int32) then 8 else 10) (ls' := [xA 7 2, xI x1, xI x2]) (st' := []) (w' := w) rfl ?_
    refine x_brT (by decide) ?_
    refine x_goN 1 (pc' := 9) (ls' := [xA 7 2, xI x1, xI x2]) (st' := [xI (-1)]) (w' := w) rfl ?_
    exact x_ret (P := True) rfl trivial (h.2 c1)
theorem z_in20 {x : Int32} (h : p_wi x 0 20) : ∃ c, x = nI c ∧ c ≤ 20 := by
  obtain ⟨j, e, e2, -⟩ := z_of (show 0 ≤ x.toInt from h.1)
  have := h.2
  rw [e_l20] at this
  exact ⟨j, e, by omega⟩
theorem O_reading (s : xS) (x1 x2 : Int32) : oB m_Vp_reading [xA 6 1, xI x1, xI x2, xU] m_Md_reading [xA 7 2, xI x1, xI x2] s := by
  by_cases hp : pL (s_T s) x1
  · by_cases hw : p_wi x2 0 20
    · have g0 : ¬ x2 < 0 := fun c => by rw [fa_lt, e_l0] at c; have := hw.1; rw [e_l0] at this; omega
      have g1 : x2 ≤ 20 := by rw [fa_le]; exact hw.2
      obtain ⟨a, ha, rfl⟩ := hp
      obtain ⟨c, rfl, hc⟩ := z_in20 hw
      by_cases hn : r_n s < 8
      · refine ⟨(nI (r_n s)), uRt s a c, fun w h => ?_, fun w h => ?_⟩
        · obtain ⟨hr1, hr2⟩ := h.2.2.2.1
          refine G_Vp_reading_0 ?_
          rw [hr1]
          exact ⟨fun _ => ⟨fun c => absurd c g0, fun _ => ⟨fun _ => ⟨fun _ => S_Rd_take h ha hc hn (fun w' h' f' => G_Vp_reading_58 (cF h' f')), fun c => absurd ((z_lt (b := 8) (by omega) (by decide)).mpr hn) c⟩, fun c => absurd g1 c⟩⟩, fun c => absurd (tR_lt (sC_R h) ha) c⟩
        · obtain ⟨hr1, hr2⟩ := h.2.2.2.1
          refine G_Md_reading_0 ⟨fun _ => ⟨fun _ => ?_, fun c => absurd hw c⟩, fun c => absurd (tS_lt (sM_S h) ha) c⟩
          rw [hr1]
          refine ⟨fun q => absurd ((z_eq (b := 8) (by omega) (by decide)).mp q) (by omega), fun _ => ⟨z_in hn (by decide), fun w1 e1 => ?_⟩⟩
          have a1 : w1 2 26 = nI (r_n s) := by rw [e1, x_set_o (by decide)]; exact hr1
          rw [a1]
          refine ⟨z_in hn (by decide), fun w2 e2 => fun w3 e3 => ?_⟩
          have a2 : w2 2 26 = nI (r_n s) := by rw [e2, x_set_o (by decide)]; exact a1
          rw [a2, nI_1] at e3
          rw [z_cl' (by omega)] at e1 e2
          have a3 : w3 2 26 = nI (r_n s + 1) := by rw [e3, x_set_s, upd_s]
          refine ⟨?_, sM_rd h (uRt_ok h.1 ha hc hn) (fun b b1 b2 b3 => ?_) (fun j hj => ?_) ⟨a3, fun q hq => ?_⟩, fun b b1 b2 => ?_⟩
          · rw [a3, show (1 : Int32) = nI 1 from rfl, pk_sub (by omega)]; rfl
          · rw [e3, x_set_o b1, e2, x_set_o b3, e1, x_set_o b2]
          · rw [e3, x_set_s, upd_o hj, e2, x_set_o (by decide), e1, x_set_o (by decide)]
          · have hq' : q < r_n s + 1 := hq
            show w3 92 q = nI (if q = r_n s then a else r_v s q) ∧ w3 93 q = nI (if q = r_n s then c else r_c s q)
            rw [e3, x_set_o (by decide), x_set_o (by decide), e2, x_set_s, x_set_o (by decide), e1, x_set_s, x_set_o (by decide)]
            by_cases e : q = r_n s
            · rw [if_pos e, if_pos e, e, upd_s, upd_s]; exact ⟨rfl, rfl⟩
            · rw [if_neg e, if_neg e, upd_o e, upd_o e]; exact hr2 q (by omega)
          · rw [e3, x_set_o (by omega), e2, x_set_o (by omega), e1, x_set_o (by omega)]
      · refine ⟨(-4), s, fun w h => ?_, fun w h => ?_⟩
        · obtain ⟨hr1, hr2⟩ := h.2.2.2.1
          have hn8 := h.1.2.2.1
          refine G_Vp_reading_0 ?_
          rw [hr1]
          exact ⟨fun _ => ⟨fun c => absurd c g0, fun _ => ⟨fun _ => ⟨fun q => absurd ((z_lt (b := 8) (by omega) (by decide)).mp q) hn, fun _ => cE h⟩, fun c => absurd g1 c⟩⟩, fun c => absurd (tR_lt (sC_R h) ha) c⟩
        · obtain ⟨hr1, hr2⟩ := h.2.2.2.1
          have hn8 := h.1.2.2.1
          refine G_Md_reading_0 ⟨fun _ => ⟨fun _ => ?_, fun c => absurd hw c⟩, fun c => absurd (tS_lt (sM_S h) ha) c⟩
          rw [hr1]
          exact ⟨fun _ => mE h, fun q => absurd ((z_eq (b := 8) (by omega) (by decide)).mpr (by omega)) q⟩
    · refine ⟨(-2), s, fun w h => G_Vp_reading_0 ⟨fun _ => ⟨fun _ => cE h, fun c => ⟨fun c2 => absurd ?_ hw, fun _ => cE h⟩⟩, fun c => absurd ((pL_C h).mpr hp) c⟩, fun w h => G_Md_reading_0 ⟨fun _ => ⟨fun c => absurd c hw, fun _ => mE h⟩, fun c => absurd ((pL_M h).mpr hp) c⟩⟩
      rw [fa_lt] at c
      rw [fa_le] at c2
      exact ⟨by omega, c2⟩
  · exact ⟨(-1), s, fun w h => G_Vp_reading_0 ⟨fun c => absurd ((pL_C h).mp c) hp, fun _ => cE h⟩, fun w h => G_Md_reading_0 ⟨fun c => absurd ((pL_M h).mp c) hp, fun _ => mE h⟩⟩
theorem G_Rd_keepOnly_0 {d : Nat} {x1 : Int32} {w : xWd} {Q : xMV → xWd → Prop} (h : ((x1 < 0 → Q xU w) ∧ (¬ (x1 < 0) → ((w 39 2 ≤ x1 → Q xU w) ∧ (¬ (w 39 2 ≤ x1) → (∀ w1 : xWd, w1 = x_set w 39 2 x1 → Q xU w1)))))) : xWp d m_Rd_keepOnly 0 [xA 2 39, xI x1] [] w Q := by
  refine x_goN 2 (pc' := if x1 < 0 then 17 else 4) (ls' := [xA 2 39, xI x1]) (st' := []) (w' := w) rfl ?_
  refine x_br (fun c1 => ?_) (fun c1 => ?_)
  · skip
    exact x_ret (P := True) rfl trivial (h.1 c1)
  · skip
    refine x_goN 4 (pc' := if w 39 2 ≤ x1 then 17 else 12) (ls' := [xA 2 39, xI x1]) (st' := []) (w' := w) rfl ?_
    refine x_br (fun c2 => ?_) (fun c2 => ?_)
    · skip
      exact x_ret (P := True) rfl trivial ((h.2 c1).1 c2)
    · skip
      refine x_goN 2 (pc' := 14) (ls' := [xA 2 39, xI x1]) (st' := [xI x1, xA 2 39]) (w' := w) rfl ?_
      refine x_goW (pc' := 17) (ls' := [xA 2 39, xI x1]) (st' := []) (w' := x_set w 39 2 x1) rfl (fun w1 ew1 => ?_)
      exact x_ret (P := True) rfl trivial (((h.2 c1).2 c2) w1 ew1)
def uRk (s : xS) (n : Nat) : xS := uR s n (r_v s) (r_c s)
theorem uRk_ok {s : xS} {n : Nat} (h : sOk s) (hn : n ≤ r_n s) : n ≤ 8 ∧ ∀ q, q < n → r_v s q < tn (s_T s) ∧ r_c s q ≤ 20 := ⟨by have := h.2.2.1; omega, fun q hq => h.2.2.2 q (by omega)⟩
theorem S_Rd_keepOnly {d n : Nat} {s : xS} {w : xWd} {Q : xMV → xWd → Prop} (h : sC s w) (hn : n ≤ r_n s) (hq : ∀ w', sC (uRk s n) w' → fC w w' → Q xU w') : xWp d m_Rd_keepOnly 0 [xA 2 39, xI (nI n)] [] w Q := by
  obtain ⟨hr1, hr2⟩ := h.2.2.2.1
  have h8 := h.1.2.2.1
  refine G_Rd_keepOnly_0 ⟨fun c => absurd c (z_neg (by omega)), fun _ => ?_⟩
  rw [hr1, z_le (by omega) (by omega)]
  refine ⟨fun c => hq w (sC_rd h (uRk_ok h.1 hn) (fun _ _ _ _ => rfl) ⟨by rw [hr1]; exact congrArg nI (show r_n s = n by omega), fun q hq => hr2 q (Nat.lt_of_lt_of_le hq hn)⟩) (fC_rf w), fun c w1 e1 => hq w1 (sC_rd h (uRk_ok h.1 hn) (fun a b1 b2 b3 => by rw [e1, x_set_o b1]) ⟨by rw [e1, x_set_s, upd_s]; rfl, fun q hq => ?_⟩) (e1 ▸ fC_set (by omega))⟩
  rw [e1, x_set_o (by decide), x_set_o (by decide)]
  exact hr2 q (Nat.lt_of_lt_of_le hq hn)
theorem G_Vp_back_0 {d : Nat} {x1 : Int32} {w : xWd} {Q : xMV → xWd → Prop} (h : ((x1 < 0 → Q (xI (-2)) w) ∧ (¬ (x1 < 0) → ((x1 ≤ w 39 2 → xWp d m_Rd_keepOnly 0 [xA 2 39, xI ((w 39 2) - x1)] [] w (fun a w' => xWp (d + 1) m_Vp_back 34 [xA 6 1, xI x1] (x_pu a []) w' Q)) ∧ (¬ (x1 ≤ w 39 2) → Q (xI (-2)) w))))) : xWp (d + 1) m_Vp_back 0 [xA 6 1, xI x1] [] w Q := by
  refine x_goN 2 (pc' := if x1 < 0 then 15 else 4) (ls' := [xA 6 1, xI x1]) (st' := []) (w' := w) rfl ?_
  refine x_br (fun c1 => ?_) (fun c1 => ?_)
  · skip
    refine x_goN 1 (pc' := 17) (ls' := [xA 6 1, xI x1]) (st' := [xI (-2)]) (w' := w) rfl ?_
    exact x_ret (P := True) rfl trivial (h.1 c1)
  · skip
    refine x_goN 5 (pc' := if x1 ≤ w 39 2 then 18 else 15) (ls' := [xA 6 1, xI x1]) (st' := []) (w' := w) rfl ?_
    refine x_br (fun c2 => ?_) (fun c2 => ?_)
    · skip
      refine x_goN 7 (pc' := 31) (ls' := [xA 6 1, xI x1]) (st' := [xI ((w 39 2) - x1), xA 2 39]) (w' := w) rfl ?_
      refine x_call (y := m_Rd_keepOnly) (as := [xA 2 39, xI ((w 39 2) - x1)]) (rst := []) rfl [xA 2 39, xI ((w 39 2) - x1)] rfl ?_
      exact ((h.2 c1).1 c2)
    · skip
      refine x_goN 1 (pc' := 17) (ls' := [xA 6 1, xI x1]) (st' := [xI (-2)]) (w' := w) rfl ?_
      exact x_ret (P := True) rfl trivial ((h.2 c1).2 c2)
theorem G_Vp_back_34 {d : Nat} {x1 : Int32} {w : xWd} {Q : xMV → xWd → Prop} (h : Q (xI (w 39 2)) w) : xWp (d + 1) m_Vp_back 34 [xA 6 1, xI x1] [] w Q := by
  refine x_goN 3 (pc' := 41) (ls' := [xA 6 1, xI x1]) (st' := [xI (w 39 2)]) (w' := w) rfl ?_
  exact x_ret (P := True) rfl trivial h
theorem G_Md_back_0 {d : Nat} {x1 : Int32} {w : xWd} {Q : xMV → xWd → Prop} (h : ((p_wi x1 0 (w 2 26) → (∀ w1 : xWd, w1 = x_set w 2 26 ((w 2 26) - x1) → Q (xI (w1 2 26)) w1)) ∧ (¬ (p_wi x1 0 (w 2 26)) → Q (xI (-2)) w))) : xWp (d + 1) m_Md_back 0 [xA 7 2, xI x1] [] w Q := by
  refine x_goN 4 (pc' := 6) (ls' := [xA 7 2, xI x1]) (st' := [xI (w 2 26), xI 0, xI x1]) (w' := w) rfl ?_
  refine x_call (y := m_Md_within) (as := [xI x1, xI 0, xI (w 2 26)]) (rst := []) rfl [xI x1, xI 0, xI (w 2 26)] rfl ?_
  refine S_Md_within (fun c1 => ?_) (fun c1 => ?_)
  · skip
    refine x_goN 1 (pc' := if (1 : Int32) = (0 : Int32) then 12 else 15) (ls' := [xA 7 2, xI x1]) (st' := []) (w' := w) rfl ?_
    refine x_brF (by decide) ?_
    refine x_goN 5 (pc' := 22) (ls' := [xA 7 2, xI x1]) (st' := [xI ((w 2 26) - x1), xA 7 2]) (w' := w) rfl ?_
    refine x_goW (pc' := 25) (ls' := [xA 7 2, xI x1]) (st' := []) (w' := x_set w 2 26 ((w 2 26) - x1)) rfl (fun w1 ew1 => ?_)
    refine x_goN 2 (pc' := 29) (ls' := [xA 7 2, xI x1]) (st' := [xI (w1 2 26)]) (w' := w1) rfl ?_
    exact x_ret (P := True) rfl trivial ((h.1 c1) w1 ew1)
  · skip
    refine x_goN 1 (pc' := if (0 : Int32) = (0 : Int32) then 12 else 15) (ls' := [xA 7 2, xI x1]) (st' := []) (w' := w) rfl ?_
    refine x_brT (by decide) ?_
    refine x_goN 1 (pc' := 14) (ls' := [xA 7 2, xI x1]) (st' := [xI (-2)]) (w' := w) rfl ?_
    exact x_ret (P := True) rfl trivial (h.2 c1)
theorem O_back (s : xS) (x : Int32) : oB m_Vp_back [xA 6 1, xI x] m_Md_back [xA 7 2, xI x] s := by
  by_cases hw : ∃ b, x = nI b ∧ b ≤ r_n s
  · obtain ⟨b, rfl, hb⟩ := hw
    refine ⟨(nI (r_n s - b)), uRk s (r_n s - b), fun w h => ?_, fun w h => ?_⟩
    · obtain ⟨hr1, hr2⟩ := h.2.2.2.1
      have h8 := h.1.2.2.1
      refine G_Vp_back_0 ⟨fun c => absurd c (z_neg (by omega)), fun _ => ?_⟩
      rw [hr1, z_le (by omega) (by omega), pk_sub hb]
      exact ⟨fun _ => S_Rd_keepOnly h (by omega) (fun w' h' f' => G_Vp_back_34 ⟨congrArg xI h'.2.2.2.1.1, h', f'⟩), fun c => absurd hb c⟩
    · obtain ⟨hr1, hr2⟩ := h.2.2.2.1
      have h8 := h.1.2.2.1
      have hwi : p_wi (nI b) 0 (nI (r_n s)) := by
        unfold p_wi
        rw [nI_toInt (by omega), nI_toInt (by omega), e_l0]; omega
      refine G_Md_back_0 ?_
      rw [hr1, pk_sub hb]
      refine ⟨fun _ w1 e1 => ?_, fun c => absurd hwi c⟩
      have a1 : w1 2 26 = nI (r_n s - b) := by rw [e1, x_set_s, upd_s]
      refine ⟨congrArg xI a1, sM_rd h (uRk_ok h.1 (by omega)) (fun a b1 b2 b3 => by rw [e1, x_set_o b1]) (fun j hj => by rw [e1, x_set_s, upd_o hj]) ⟨a1, fun q hq => ?_⟩, e1 ▸ fM_2⟩
      have hq' : q < r_n s - b := hq
      rw [e1, x_set_o (by decide), x_set_o (by decide)]
      exact hr2 q (by omega)
  · refine ⟨(-2), s, fun w h => ?_, fun w h => ?_⟩
    · obtain ⟨hr1, hr2⟩ := h.2.2.2.1
      have h8 := h.1.2.2.1
      refine G_Vp_back_0 ⟨fun _ => cE h, fun c => ?_⟩
      rw [hr1]
      refine ⟨fun c2 => absurd ?_ hw, fun _ => cE h⟩
      rw [fa_lt, e_l0] at c
      rw [fa_le, nI_toInt (by omega)] at c2
      obtain ⟨j, e1, e2, -⟩ := z_of (v := x) (by omega)
      exact ⟨j, e1, by omega⟩
    · obtain ⟨hr1, hr2⟩ := h.2.2.2.1
      have h8 := h.1.2.2.1
      refine G_Md_back_0 ?_
      rw [hr1]
      refine ⟨fun c => absurd ?_ hw, fun _ => mE h⟩
      unfold p_wi at c
      rw [nI_toInt (by omega), e_l0] at c
      obtain ⟨j, e1, e2, -⟩ := z_of (v := x) (by omega)
      exact ⟨j, e1, by omega⟩

