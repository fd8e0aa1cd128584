/-! CUT -/
def uCu (s : xS) : xS := uR (uT s (tCut (s_T s))) (fK (tn (s_T s) - 1) (r_v s) (r_c s) (r_n s)).1 (fK (tn (s_T s) - 1) (r_v s) (r_c s) (r_n s)).2.1 (fK (tn (s_T s) - 1) (r_v s) (r_c s) (r_n s)).2.2
theorem uCu_ok {s : xS} (h : sOk s) : sOk (uCu s) := by
  have hle := fK_le (tn (s_T s) - 1) (r_v s) (r_c s) (r_n s)
  have hok := fK_ok (x := tn (s_T s) - 1) (N := tn (s_T s)) (r_n s) h.2.2.2
  refine ⟨h.1, tCut_W h.2.1, Nat.le_trans hle h.2.2.1, fun q hq => ?_⟩
  obtain ⟨o1, o2, o3⟩ := hok q hq
  refine ⟨?_, o3⟩
  show (fK (tn (s_T s) - 1) (r_v s) (r_c s) (r_n s)).2.1 q < tn (s_T s) - 1
  omega
theorem G_Vp_cut_0 {d : Nat} {w : xWd} {Q : xMV → xWd → Prop} (h : ((1 < w 34 8 → xWp d m_Tr_takeLast 0 [xA 5 34] [] w (fun a w' => xWp (d + 1) m_Vp_cut 21 [xA 6 1] (x_pu a []) w' Q)) ∧ (¬ (1 < w 34 8) → Q (xI (-3)) w))) : xWp (d + 1) m_Vp_cut 0 [xA 6 1] [] w Q := by
  refine x_goN 5 (pc' := if 1 < w 34 8 then 14 else 11) (ls' := [xA 6 1]) (st' := []) (w' := w) rfl ?_
  refine x_br (fun c1 => ?_) (fun c1 => ?_)
  · skip
    refine x_goN 2 (pc' := 18) (ls' := [xA 6 1]) (st' := [xA 5 34]) (w' := w) rfl ?_
    refine x_call (y := m_Tr_takeLast) (as := [xA 5 34]) (rst := []) rfl [xA 5 34] rfl ?_
    exact (h.1 c1)
  · skip
    refine x_goN 1 (pc' := 13) (ls' := [xA 6 1]) (st' := [xI (-3)]) (w' := w) rfl ?_
    exact x_ret (P := True) rfl trivial (h.2 c1)
theorem G_Vp_cut_21 {d : Nat} {w : xWd} {Q : xMV → xWd → Prop} (h : xWp d m_Rd_forget 0 [xA 2 39, xI (w 34 8), xU, xU] [] w (fun a w' => xWp (d + 1) m_Vp_cut 35 [xA 6 1] (x_pu a []) w' Q)) : xWp (d + 1) m_Vp_cut 21 [xA 6 1] [] w Q := by
  refine x_goN 5 (pc' := 32) (ls' := [xA 6 1]) (st' := [xI (w 34 8), xA 2 39]) (w' := w) rfl ?_
  refine x_call (y := m_Rd_forget) (as := [xA 2 39, xI (w 34 8)]) (rst := []) rfl [xA 2 39, xI (w 34 8), xU, xU] rfl ?_
  exact h
theorem G_Vp_cut_35 {d : Nat} {w : xWd} {Q : xMV → xWd → Prop} (h : Q (xI (w 34 8)) w) : xWp (d + 1) m_Vp_cut 35 [xA 6 1] [] w Q := by
  refine x_goN 3 (pc' := 42) (ls' := [xA 6 1]) (st' := [xI (w 34 8)]) (w' := w) rfl ?_
  exact x_ret (P := True) rfl trivial h
theorem O_cut (s : xS) : oB m_Vp_cut [xA 6 1] m_Md_cut [xA 7 2, xU, xU] s := by
  by_cases hn : 1 < tn (s_T s)
  · refine ⟨(nI (tn (s_T s) - 1)), uCu s, fun w h => ?_, fun w h => ?_⟩
    · have h8 := s_n8 h.1
      have hr8 := h.1.2.2.1
      refine G_Vp_cut_0 ?_
      rw [sC_n h]
      refine ⟨fun _ => S_Tr_takeLast (sC_R h) (by omega) (fun w1 hR hf => G_Vp_cut_21 ?_), fun c => absurd ((z_lt (a := 1) (by decide) (by omega)).mpr hn) c⟩
      have n1 : w1 34 8 = nI (tn (s_T s) - 1) := hR.1.1
      rw [n1]
      have f39 := hf 39 (by omega) (by omega)
      have f49 := hf 1249 (by omega) (by omega)
      have f50 := hf 1250 (by omega) (by omega)
      refine G_Rd_forget_0 (L_Rd_forget (n := r_n s) (v := r_v s) (c := r_c s) hr8 (by omega) (fun q hq => by have := (h.1.2.2.2 q hq).1; omega) (r_n s) 0 w1 (Nat.zero_add _) (by rw [f39]; exact h.2.2.2.1.1) ⟨fun q hq => absurd hq (Nat.not_lt_zero _), fun q _ hq => by rw [f49, f50]; exact h.2.2.2.1.2 q hq⟩ (fun w2 g1 g2 g3 => G_Vp_cut_35 ⟨?_, ⟨uCu_ok h.1, fun k hk => ?_, ?_, ⟨g2, g3.1⟩, ?_, ?_⟩, fun a ha => ?_⟩))
      · rw [g1 34 (by omega) (by omega) (by omega), n1]
      · exact cSh_fr (h.2.1 k hk) (by rw [g1 _ (by omega) (by omega) (by omega), hf _ (by omega) (by omega)]) (by rw [g1 _ (by omega) (by omega) (by omega), hf _ (by omega) (by omega)])
      · exact tC_fr hR.1 (g1 _ (by omega) (by omega) (by omega)) (fun i hi => g1 _ (by omega) (by omega) (by omega))
      · rw [g1 1 (by omega) (by omega) (by omega), hf 1 (by omega) (by omega)]; exact h.2.2.2.2.1
      · rw [g1 1 (by omega) (by omega) (by omega), hf 1 (by omega) (by omega)]; exact h.2.2.2.2.2
      · rw [g1 a (by omega) (by omega) (by omega), hf a (by omega) (by omega)]
    · have h8 := s_n8 h.1
      have hr8 := h.1.2.2.1
      refine G_Md_cut_0 ?_
      rw [sM_n h]
      refine ⟨fun _ w1 e1 => ?_, fun c => absurd ((z_le (a := 2) (by decide) (by omega)).mpr hn) c⟩
      rw [show (1 : Int32) = nI 1 from rfl, pk_sub (by omega)] at e1
      have a5 : w1 2 5 = nI (tn (s_T s) - 1) := by rw [e1, x_set_s, upd_s]
      refine L_Md_cut (x := tn (s_T s) - 1) (n := r_n s) (v := r_v s) (c := r_c s) hr8 (by omega) (fun q hq => by have := (h.1.2.2.2 q hq).1; omega) (r_n s) 0 w1 (Nat.zero_add _) (by rw [e1, x_set_s, upd_o (by decide)]; exact h.2.2.2.1.1) a5 ⟨fun q hq => absurd hq (Nat.not_lt_zero _), fun q _ hq => by rw [e1, x_set_o (by decide), x_set_o (by decide)]; exact h.2.2.2.1.2 q hq⟩ (fun w2 g1 g0 g2 g3 => ⟨rfl, ⟨uCu_ok h.1, fun k hk => ?_, ⟨?_, fun l hl => ?_⟩, ⟨g2, g3.1⟩, ?_, ?_⟩, fun a ha hb => ?_⟩)
      · unfold mSh
        rw [g1 67 (by omega) (by omega) (by omega), g1 68 (by omega) (by omega) (by omega), g1 69 (by omega) (by omega) (by omega), e1, x_set_o (by decide), x_set_o (by decide), x_set_o (by decide)]
        exact h.2.1 k hk
      · rw [g0 5 (by decide)]; exact a5
      · have hl' : l < tn (s_T s) - 1 := hl
        rw [g1 71 (by omega) (by omega) (by omega), g1 72 (by omega) (by omega) (by omega), g1 73 (by omega) (by omega) (by omega), g1 74 (by omega) (by omega) (by omega), e1, x_set_o (by decide), x_set_o (by decide), x_set_o (by decide), x_set_o (by decide)]
        exact h.2.2.1.2 l (by omega)
      · rw [g0 1 (by decide), e1, x_set_s, upd_o (by decide)]; exact h.2.2.2.2.1
      · rw [g0 0 (by decide), e1, x_set_s, upd_o (by decide)]; exact h.2.2.2.2.2
      · rw [g1 a (by omega) (by omega) (by omega), e1, x_set_o (by omega)]
  · refine ⟨(-3), s, fun w h => ?_, fun w h => ?_⟩
    · have h8 := s_n8 h.1
      refine G_Vp_cut_0 ?_
      rw [sC_n h]
      exact ⟨fun c => absurd ((z_lt (a := 1) (by decide) (by omega)).mp c) hn, fun _ => cE h⟩
    · have h8 := s_n8 h.1
      refine G_Md_cut_0 ?_
      rw [sM_n h]
      exact ⟨fun c => absurd ((z_le (a := 2) (by decide) (by omega)).mp c) (by omega), fun _ => mE h⟩

