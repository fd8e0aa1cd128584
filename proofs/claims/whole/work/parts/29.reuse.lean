/-! LINES CHANGED ON BOTH SIDES: reuse, cut -/
theorem sC_uT {s : xS} {w w' : xWd} {T : xT} (h : sC s w) (hR : tR w' 34 T) (hf : fT 34 w w') (hn : tn (s_T s) ≤ tn T) : sC (uT s T) w' ∧ fC w w' := by
  obtain ⟨h1, h2, h3, h4, h5, h6⟩ := h
  refine ⟨⟨⟨h1.1, hR.2, h1.2.2.1, fun q hq => ⟨Nat.lt_of_lt_of_le (h1.2.2.2 q hq).1 hn, (h1.2.2.2 q hq).2⟩⟩, fun k hk => cSh_fr (h2 k hk) (hf _ (by omega) (by omega)) (hf _ (by omega) (by omega)), hR.1, ?_, ?_, ?_⟩, fun a ha => hf a (by omega) (by omega)⟩
  · unfold cRd; rw [hf 39 (by omega) (by omega), hf 1249 (by omega) (by omega), hf 1250 (by omega) (by omega)]; exact h4
  · rw [hf 1 (by omega) (by omega)]; exact h5
  · rw [hf 1 (by omega) (by omega)]; exact h6
theorem sM_uT {s : xS} {w w' : xWd} {T : xT} (h : sM s w) (hS : tS w' T) (hf : ∀ a, a ≠ 2 → (a < 71 ∨ 74 < a) → w' a = w a) (h2' : ∀ j, j ≠ 5 → w' 2 j = w 2 j) (hn : tn (s_T s) ≤ tn T) : sM (uT s T) w' ∧ fM w w' := by
  obtain ⟨h1, h2, h3, h4, h5, h6⟩ := h
  refine ⟨⟨⟨h1.1, hS.2, h1.2.2.1, fun q hq => ⟨Nat.lt_of_lt_of_le (h1.2.2.2 q hq).1 hn, (h1.2.2.2 q hq).2⟩⟩, fun k hk => ?_, hS.1, ?_, by rw [h2' 1 (by omega)]; exact h5, by rw [h2' 0 (by omega)]; exact h6⟩, fun a ha hb => hf a ha (by omega)⟩
  · unfold mSh; rw [hf 67 (by omega) (by omega), hf 68 (by omega) (by omega), hf 69 (by omega) (by omega)]; exact h2 k hk
  · unfold mRd; rw [h2' 26 (by omega), hf 92 (by omega) (by omega), hf 93 (by omega) (by omega)]; exact h4
theorem G_Vp_reuse_0 {d : Nat} {T : xT} {x1 : Int32} {x2 : Int32} {x3 : Int32} {w : xWd} {Q : xMV → xWd → Prop} (h : ((tR w 34 T) ∧ ((pP T x1 x2 → ((p_lt x3 (w 34 8) → ((tR w 34 T) ∧ ((pU T x1 x2 x3 → ((tR w 34 T) ∧ xWp (d + 4) m_Tr_useInstead 0 [xA 5 34, xI x1, xI x2, xI x3] [] w (fun a w' => xWp (d + 5) m_Vp_reuse 62 [xA 6 1, xI x1, xI x2, xI x3, xI (vUs T x1 x2)] (x_pu a []) w' Q))) ∧ (¬ (pU T x1 x2 x3) → Q (xI (-3)) w)))) ∧ (¬ (p_lt x3 (w 34 8)) → Q (xI (-1)) w))) ∧ (¬ (pP T x1 x2) → Q (xI (-1)) w)))) : xWp (d + 5) m_Vp_reuse 0 [xA 6 1, xI x1, xI x2, xI x3, xU] [] w Q := by
  refine x_goN 4 (pc' := 6) (ls' := [xA 6 1, xI x1, xI x2, xI x3, xU]) (st' := [xI x2, xI x1, xA 5 34]) (w' := w) rfl ?_
  refine x_call (y := m_Tr_hasPlace) (as := [xA 5 34, xI x1, xI x2]) (rst := []) rfl [xA 5 34, xI x1, xI x2] rfl ?_
  refine S_Tr_hasPlace h.1 (fun c1 => ?_) (fun c1 => ?_)
  · skip
    refine x_goN 1 (pc' := if (1 : Int32) = (0 : Int32) then 23 else 12) (ls' := [xA 6 1, xI x1, xI x2, xI x3, xU]) (st' := []) (w' := w) rfl ?_
    refine x_brF (by decide) ?_
    refine x_goN 3 (pc' := 17) (ls' := [xA 6 1, xI x1, xI x2, xI x3, xU]) (st' := [xI x3, xA 5 34]) (w' := w) rfl ?_
    refine x_call (y := m_Tr_isLine) (as := [xA 5 34, xI x3]) (rst := []) rfl [xA 5 34, xI x3] rfl ?_
    refine S_Tr_isLine (fun c2 => ?_) (fun c2 => ?_)
    · skip
      refine x_goN 1 (pc' := if (1 : Int32) = (0 : Int32) then 23 else 25) (ls' := [xA 6 1, xI x1, xI x2, xI x3, xU]) (st' := []) (w' := w) rfl ?_
      refine x_brF (by decide) ?_
      refine x_goN 5 (pc' := 32) (ls' := [xA 6 1, xI x1, xI x2, xI x3, xU]) (st' := [xI x3, xI x2, xI x1, xA 5 34]) (w' := w) rfl ?_
      refine x_call (y := m_Tr_mayUse) (as := [xA 5 34, xI x1, xI x2, xI x3]) (rst := []) rfl [xA 5 34, xI x1, xI x2, xI x3] rfl ?_
      refine S_Tr_mayUse ((h.2.1 c1).1 c2).1 (fun c3 => ?_) (fun c3 => ?_)
      · skip
        refine x_goN 1 (pc' := if (1 : Int32) = (0 : Int32) then 38 else 41) (ls' := [xA 6 1, xI x1, xI x2, xI x3, xU]) (st' := []) (w' := w) rfl ?_
        refine x_brF (by decide) ?_
        refine x_goN 4 (pc' := 47) (ls' := [xA 6 1, xI x1, xI x2, xI x3, xU]) (st' := [xI x2, xI x1, xA 5 34]) (w' := w) rfl ?_
        refine x_call (y := m_Tr_usedIn) (as := [xA 5 34, xI x1, xI x2]) (rst := []) rfl [xA 5 34, xI x1, xI x2] rfl ?_
        refine S_Tr_usedIn (((h.2.1 c1).1 c2).2.1 c3).1 ?_
        refine x_goN 6 (pc' := 59) (ls' := [xA 6 1, xI x1, xI x2, xI x3, xI (vUs T x1 x2)]) (st' := [xI x3, xI x2, xI x1, xA 5 34]) (w' := w) rfl ?_
        refine x_call (y := m_Tr_useInstead) (as := [xA 5 34, xI x1, xI x2, xI x3]) (rst := []) rfl [xA 5 34, xI x1, xI x2, xI x3] rfl ?_
        exact (((h.2.1 c1).1 c2).2.1 c3).2
      · skip
        refine x_goN 1 (pc' := if (0 : Int32) = (0 : Int32) then 38 else 41) (ls' := [xA 6 1, xI x1, xI x2, xI x3, xU]) (st' := []) (w' := w) rfl ?_
        refine x_brT (by decide) ?_
        refine x_goN 1 (pc' := 40) (ls' := [xA 6 1, xI x1, xI x2, xI x3, xU]) (st' := [xI (-3)]) (w' := w) rfl ?_
        exact x_ret (P := True) rfl trivial (((h.2.1 c1).1 c2).2.2 c3)
    · skip
      refine x_goN 1 (pc' := if (0 : Int32) = (0 : Int32) then 23 else 25) (ls' := [xA 6 1, xI x1, xI x2, xI x3, xU]) (st' := []) (w' := w) rfl ?_
      refine x_brT (by decide) ?_
      refine x_goN 1 (pc' := 24) (ls' := [xA 6 1, xI x1, xI x2, xI x3, xU]) (st' := [xI (-1)]) (w' := w) rfl ?_
      exact x_ret (P := True) rfl trivial ((h.2.1 c1).2 c2)
  · skip
    refine x_goN 1 (pc' := if (0 : Int32) = (0 : Int32) then 23 else 12) (ls' := [xA 6 1, xI x1, xI x2, xI x3, xU]) (st' := []) (w' := w) rfl ?_
    refine x_brT (by decide) ?_
    refine x_goN 1 (pc' := 24) (ls' := [xA 6 1, xI x1, xI x2, xI x3, xU]) (st' := [xI (-1)]) (w' := w) rfl ?_
    exact x_ret (P := True) rfl trivial (h.2.2 c1)
theorem G_Vp_reuse_62 {d : Nat} {x1 : Int32} {x2 : Int32} {x3 : Int32} {x4 : Int32} {w : xWd} {Q : xMV → xWd → Prop} (h : Q (xI x4) w) : xWp (d + 5) m_Vp_reuse 62 [xA 6 1, xI x1, xI x2, xI x3, xI x4] [] w Q := by
  refine x_goN 1 (pc' := 64) (ls' := [xA 6 1, xI x1, xI x2, xI x3, xI x4]) (st' := [xI x4]) (w' := w) rfl ?_
  exact x_ret (P := True) rfl trivial h
theorem G_Md_reuse_0 {d : Nat} {x1 : Int32} {x2 : Int32} {x3 : Int32} {w : xWd} {Q : xMV → xWd → Prop} (h : ((p_lt x1 (w 2 5) → (vp_in x1 8 ∧ ((p_wi x2 0 ((w 73 x1.toNatClampNeg) - 1) → ((p_lt x3 (w 2 5) → xWp (d + 1) m_Md_canReuse 0 [xA 7 2, xI x1, xI x2, xI x3] [] w (fun a w' => xWp (d + 2) m_Md_reuse 41 [xA 7 2, xI x1, xI x2, xI x3, xU] (x_pu a []) w' Q)) ∧ (¬ (p_lt x3 (w 2 5)) → Q (xI (-1)) w))) ∧ (¬ (p_wi x2 0 ((w 73 x1.toNatClampNeg) - 1)) → Q (xI (-1)) w)))) ∧ (¬ (p_lt x1 (w 2 5)) → Q (xI (-1)) w))) : xWp (d + 2) m_Md_reuse 0 [xA 7 2, xI x1, xI x2, xI x3, xU] [] w Q := by
  refine x_goN 2 (pc' := 2) (ls' := [xA 7 2, xI x1, xI x2, xI x3, xU]) (st' := [xI x1, xA 7 2]) (w' := w) rfl ?_
  refine x_call (y := m_Md_isLine) (as := [xA 7 2, xI x1]) (rst := []) rfl [xA 7 2, xI x1] rfl ?_
  refine S_Md_isLine (fun c1 => ?_) (fun c1 => ?_)
  · skip
    refine x_goN 1 (pc' := if (1 : Int32) = (0 : Int32) then 32 else 8) (ls' := [xA 7 2, xI x1, xI x2, xI x3, xU]) (st' := []) (w' := w) rfl ?_
    refine x_brF (by decide) ?_
    refine x_goN 5 (pc' := 15) (ls' := [xA 7 2, xI x1, xI x2, xI x3, xU]) (st' := [xI x1, xA 108 73, xI 0, xI x2]) (w' := w) rfl ?_
    refine x_ob (P := vp_in x1 8) (pc' := 16) (ls' := [xA 7 2, xI x1, xI x2, xI x3, xU]) (st' := [xI (w 73 x1.toNatClampNeg), xI 0, xI x2]) (w' := w) rfl (h.1 c1).1 ?_
    refine x_goN 2 (pc' := 18) (ls' := [xA 7 2, xI x1, xI x2, xI x3, xU]) (st' := [xI ((w 73 x1.toNatClampNeg) - 1), xI 0, xI x2]) (w' := w) rfl ?_
    refine x_call (y := m_Md_within) (as := [xI x2, xI 0, xI ((w 73 x1.toNatClampNeg) - 1)]) (rst := []) rfl [xI x2, xI 0, xI ((w 73 x1.toNatClampNeg) - 1)] rfl ?_
    refine S_Md_within (fun c2 => ?_) (fun c2 => ?_)
    · skip
      refine x_goN 1 (pc' := if (1 : Int32) = (0 : Int32) then 32 else 24) (ls' := [xA 7 2, xI x1, xI x2, xI x3, xU]) (st' := []) (w' := w) rfl ?_
      refine x_brF (by decide) ?_
      refine x_goN 2 (pc' := 26) (ls' := [xA 7 2, xI x1, xI x2, xI x3, xU]) (st' := [xI x3, xA 7 2]) (w' := w) rfl ?_
      refine x_call (y := m_Md_isLine) (as := [xA 7 2, xI x3]) (rst := []) rfl [xA 7 2, xI x3] rfl ?_
      refine S_Md_isLine (fun c3 => ?_) (fun c3 => ?_)
      · skip
        refine x_goN 1 (pc' := if (1 : Int32) = (0 : Int32) then 32 else 34) (ls' := [xA 7 2, xI x1, xI x2, xI x3, xU]) (st' := []) (w' := w) rfl ?_
        refine x_brF (by decide) ?_
        refine x_goN 4 (pc' := 38) (ls' := [xA 7 2, xI x1, xI x2, xI x3, xU]) (st' := [xI x3, xI x2, xI x1, xA 7 2]) (w' := w) rfl ?_
        refine x_call (y := m_Md_canReuse) (as := [xA 7 2, xI x1, xI x2, xI x3]) (rst := []) rfl [xA 7 2, xI x1, xI x2, xI x3] rfl ?_
        exact (((h.1 c1).2.1 c2).1 c3)
      · skip
        refine x_goN 1 (pc' := if (0 : Int32) = (0 : Int32) then 32 else 34) (ls' := [xA 7 2, xI x1, xI x2, xI x3, xU]) (st' := []) (w' := w) rfl ?_
        refine x_brT (by decide) ?_
        refine x_goN 1 (pc' := 33) (ls' := [xA 7 2, xI x1, xI x2, xI x3, xU]) (st' := [xI (-1)]) (w' := w) rfl ?_
        exact x_ret (P := True) rfl trivial (((h.1 c1).2.1 c2).2 c3)
    · skip
      refine x_goN 1 (pc' := if (0 : Int32) = (0 : Int32) then 32 else 24) (ls' := [xA 7 2, xI x1, xI x2, xI x3, xU]) (st' := []) (w' := w) rfl ?_
      refine x_brT (by decide) ?_
      refine x_goN 1 (pc' := 33) (ls' := [xA 7 2, xI x1, xI x2, xI x3, xU]) (st' := [xI (-1)]) (w' := w) rfl ?_
      exact x_ret (P := True) rfl trivial ((h.1 c1).2.2 c2)
  · skip
    refine x_goN 1 (pc' := if (0 : Int32) = (0 : Int32) then 32 else 8) (ls' := [xA 7 2, xI x1, xI x2, xI x3, xU]) (st' := []) (w' := w) rfl ?_
    refine x_brT (by decide) ?_
    refine x_goN 1 (pc' := 33) (ls' := [xA 7 2, xI x1, xI x2, xI x3, xU]) (st' := [xI (-1)]) (w' := w) rfl ?_
    exact x_ret (P := True) rfl trivial (h.2 c1)
theorem G_Md_reuse_41 {d : Nat} {x1 : Int32} {x2 : Int32} {x3 : Int32} {s0 : Int32} {w : xWd} {Q : xMV → xWd → Prop} (h : ((s0 = 0 → Q (xI (-3)) w) ∧ (¬ (s0 = 0) → (vp_in ((2 * x1) + x2) 16 ∧ (vp_in ((2 * x1) + x2) 16 ∧ ∀ w1 : xWd, w1 = x_set w 74 (((2 * x1) + x2).toNatClampNeg) x3 → Q (xI (w 74 ((2 * x1) + x2).toNatClampNeg)) w1))))) : xWp (d + 2) m_Md_reuse 41 [xA 7 2, xI x1, xI x2, xI x3, xU] [xI s0] w Q := by
  refine x_goN 1 (pc' := if s0 = 0 then 44 else 47) (ls' := [xA 7 2, xI x1, xI x2, xI x3, xU]) (st' := []) (w' := w) rfl ?_
  refine x_br (fun c1 => ?_) (fun c1 => ?_)
  · skip
    refine x_goN 1 (pc' := 46) (ls' := [xA 7 2, xI x1, xI x2, xI x3, xU]) (st' := [xI (-3)]) (w' := w) rfl ?_
    exact x_ret (P := True) rfl trivial (h.1 c1)
  · skip
    refine x_goN 7 (pc' := 56) (ls' := [xA 7 2, xI x1, xI x2, xI x3, xU]) (st' := [xI ((2 * x1) + x2), xA 116 74]) (w' := w) rfl ?_
    refine x_ob (P := vp_in ((2 * x1) + x2) 16) (pc' := 57) (ls' := [xA 7 2, xI x1, xI x2, xI x3, xU]) (st' := [xI (w 74 ((2 * x1) + x2).toNatClampNeg)]) (w' := w) rfl (h.2 c1).1 ?_
    refine x_goN 9 (pc' := 69) (ls' := [xA 7 2, xI x1, xI x2, xI x3, xI (w 74 ((2 * x1) + x2).toNatClampNeg)]) (st' := [xI x3, xI ((2 * x1) + x2), xA 116 74]) (w' := w) rfl ?_
    refine x_obW (P := vp_in ((2 * x1) + x2) 16) (pc' := 70) (ls' := [xA 7 2, xI x1, xI x2, xI x3, xI (w 74 ((2 * x1) + x2).toNatClampNeg)]) (st' := []) (w' := x_set w 74 (((2 * x1) + x2).toNatClampNeg) x3) rfl (h.2 c1).2.1 (fun w1 ew1 => ?_)
    refine x_goN 1 (pc' := 72) (ls' := [xA 7 2, xI x1, xI x2, xI x3, xI (w 74 ((2 * x1) + x2).toNatClampNeg)]) (st' := [xI (w 74 ((2 * x1) + x2).toNatClampNeg)]) (w' := w1) rfl ?_
    exact x_ret (P := True) rfl trivial ((h.2 c1).2.2 w1 ew1)
theorem M_reuse {a b c : Nat} {T : xT} {w w1 : xWd} (hS : tS w T) (ha : a < tn T) (hb : b < tm T a) (hc : c < tn T) (hu : pU T (nI a) (nI b) (nI c)) (e1 : w1 = x_set w 74 (nI (2 * a + b)).toNatClampNeg (nI c)) : tS w1 (tReu T a b c) := by
  have h8 := tS_n8 hS
  have hm := tS_m2 hS ha
  obtain ⟨u1, u2⟩ := (pU_iff h8 ha hb hm hc).mp hu
  rw [z_cl' (by omega)] at e1
  refine ⟨⟨by rw [e1, x_set_o (by decide)]; exact hS.1.1, fun l hl => ?_⟩, tReu_W hS.2 ha hb u1 u2⟩
  rw [e1, x_set_o (by decide), x_set_o (by decide), x_set_o (by decide)]
  refine ⟨(hS.1.2 l hl).1, (hS.1.2 l hl).2.1, (hS.1.2 l hl).2.2.1, fun i hi => ?_⟩
  rw [x_set_s]
  by_cases e : 2 * l + i = 2 * a + b
  · rw [e, upd_s, tReu_un]
  · rw [upd_o e, tReu_u e]; exact (hS.1.2 l hl).2.2.2 i hi
theorem O_reuse (s : xS) (x1 x2 x3 : Int32) : oB m_Vp_reuse [xA 6 1, xI x1, xI x2, xI x3, xU] m_Md_reuse [xA 7 2, xI x1, xI x2, xI x3, xU] s := by
  by_cases hp : pP (s_T s) x1 x2
  · by_cases hq : pL (s_T s) x3
    · by_cases hu : pU (s_T s) x1 x2 x3
      · obtain ⟨a, b, rfl, rfl, ha, hb⟩ := id hp
        obtain ⟨c, hc, rfl⟩ := id hq
        refine ⟨(vUs (s_T s) (nI a) (nI b)), uT s (tReu (s_T s) a b c), fun w h => ?_, fun w h => ?_⟩
        · refine G_Vp_reuse_0 (T := s_T s) ⟨sC_R h, fun _ => ⟨fun _ => ⟨sC_R h, fun _ => ⟨sC_R h, S_Tr_useInstead (by decide) (sC_R h) ha hb hc hu (fun w' hR hf => G_Vp_reuse_62 ?_)⟩, fun c => absurd hu c⟩, fun c => absurd ((pL_C h).mpr hq) c⟩, fun c => absurd hp c⟩
          have g := sC_uT h hR hf (Nat.le_refl _)
          exact cF g.1 g.2
        · have h8 := tS_n8 (sM_S h)
          have hm := tS_m2 (sM_S h) ha
          refine G_Md_reuse_0 ⟨fun _ => ⟨z_in (by omega) (by decide), ?_⟩, fun c => absurd (tS_lt (sM_S h) ha) c⟩
          rw [tM_m (sM_S h) ha]
          refine ⟨fun _ => ⟨fun _ => S_Md_canReuse (sM_S h) ha hb hc (fun _ => G_Md_reuse_41 ⟨fun c => absurd c n_10, fun _ => ?_⟩) (fun c => absurd hu c), fun c => absurd ((pL_M h).mpr hq) c⟩, fun c => absurd ((z_wi (b := 0) (by omega)).mpr ⟨b, rfl, hb⟩) c⟩
          rw [z_2l]
          refine ⟨z_in (by omega) (by decide), z_in (by omega) (by decide), fun w1 e1 => ?_⟩
          have g := sM_uT h (M_reuse (sM_S h) ha hb hc hu e1) (fun a h1 h2 => by rw [e1, x_set_o (by omega)]) (fun j hj => by rw [e1, x_set_o (by decide)]) (Nat.le_refl _)
          refine ⟨congrArg xI ?_, g.1, g.2⟩
          rw [z_cl' (by omega), tM_u (sM_S h) ha hb, vUs_p h8 ha hb hm]
      · obtain ⟨a, b, rfl, rfl, ha, hb⟩ := id hp
        obtain ⟨c, hc, rfl⟩ := id hq
        refine ⟨(-3), s, fun w h => G_Vp_reuse_0 (T := s_T s) ⟨sC_R h, fun _ => ⟨fun _ => ⟨sC_R h, fun c => absurd c hu, fun _ => cE h⟩, fun c => absurd ((pL_C h).mpr hq) c⟩, fun c => absurd hp c⟩, fun w h => ?_⟩
        have h8 := tS_n8 (sM_S h)
        have hm := tS_m2 (sM_S h) ha
        refine G_Md_reuse_0 ⟨fun _ => ⟨z_in (by omega) (by decide), ?_⟩, fun c => absurd (tS_lt (sM_S h) ha) c⟩
        rw [tM_m (sM_S h) ha]
        exact ⟨fun _ => ⟨fun _ => S_Md_canReuse (sM_S h) ha hb hc (fun c => absurd c hu) (fun _ => G_Md_reuse_41 ⟨fun _ => mE h, fun c => absurd rfl c⟩), fun c => absurd ((pL_M h).mpr hq) c⟩, fun c => absurd ((z_wi (b := 0) (by omega)).mpr ⟨b, rfl, hb⟩) c⟩
    · obtain ⟨a, b, rfl, rfl, ha, hb⟩ := id hp
      refine ⟨(-1), s, fun w h => G_Vp_reuse_0 (T := s_T s) ⟨sC_R h, fun _ => ⟨fun c => absurd ((pL_C h).mp c) hq, fun _ => cE h⟩, fun c => absurd hp c⟩, fun w h => ?_⟩
      have h8 := tS_n8 (sM_S h)
      have hm := tS_m2 (sM_S h) ha
      refine G_Md_reuse_0 ⟨fun _ => ⟨z_in (by omega) (by decide), ?_⟩, fun c => absurd (tS_lt (sM_S h) ha) c⟩
      rw [tM_m (sM_S h) ha]
      exact ⟨fun _ => ⟨fun c => absurd ((pL_M h).mp c) hq, fun _ => mE h⟩, fun c => absurd ((z_wi (b := 0) (by omega)).mpr ⟨b, rfl, hb⟩) c⟩
  · refine ⟨(-1), s, fun w h => G_Vp_reuse_0 (T := s_T s) ⟨sC_R h, fun c => absurd c hp, fun _ => cE h⟩, fun w h => G_Md_reuse_0 ⟨fun c => ?_, fun _ => mE h⟩⟩
    obtain ⟨a, ha, rfl⟩ := tS_ln (sM_S h) c
    have h8 := tS_n8 (sM_S h)
    have hm := tS_m2 (sM_S h) ha
    refine ⟨z_in (by omega) (by decide), ?_⟩
    rw [tM_m (sM_S h) ha]
    refine ⟨fun c2 => ?_, fun _ => mE h⟩
    obtain ⟨b, rfl, hb⟩ := (z_wi (b := 0) (by omega)).mp c2
    exact absurd ⟨a, b, rfl, rfl, ha, hb⟩ hp
/-! cut: the readings of the line that goes are forgotten -/
def fK (x : Nat) (v c : Nat → Nat) : Nat → Nat × (Nat → Nat) × (Nat → Nat)
  | 0 => (0, fun _ => 0, fun _ => 0)
  | t + 1 => if v t = x then fK x v c t else ((fK x v c t).1 + 1, fun q => if q = (fK x v c t).1 then v t else (fK x v c t).2.1 q, fun q => if q = (fK x v c t).1 then c t else (fK x v c t).2.2 q)
theorem fK_p {x t : Nat} {v c : Nat → Nat} (h : v t = x) : fK x v c (t + 1) = fK x v c t := if_pos h
theorem fK_n {x t : Nat} {v c : Nat → Nat} (h : ¬ v t = x) : fK x v c (t + 1) = ((fK x v c t).1 + 1, fun q => if q = (fK x v c t).1 then v t else (fK x v c t).2.1 q, fun q => if q = (fK x v c t).1 then c t else (fK x v c t).2.2 q) := if_neg h
theorem fK_le (x : Nat) (v c : Nat → Nat) : ∀ t, (fK x v c t).1 ≤ t
  | 0 => Nat.le_refl _
  | t + 1 => by
    have ih := fK_le x v c t
    by_cases h : v t = x
    · rw [fK_p h]; omega
    · rw [fK_n h]; show (fK x v c t).1 + 1 ≤ t + 1; omega
theorem fK_ok {x N : Nat} {v c : Nat → Nat} : ∀ t, (∀ q, q < t → v q < N ∧ c q ≤ 20) → ∀ q, q < (fK x v c t).1 → (fK x v c t).2.1 q ≠ x ∧ (fK x v c t).2.1 q < N ∧ (fK x v c t).2.2 q ≤ 20
  | 0 => fun _ q hq => absurd hq (Nat.not_lt_zero _)
  | t + 1 => fun hv q hq => by
    have ih := fK_ok (x := x) t (fun q hq => hv q (by omega))
    by_cases h : v t = x
    · rw [fK_p h] at hq ⊢; exact ih q hq
    · rw [fK_n h] at hq ⊢
      have hq' : q < (fK x v c t).1 + 1 := hq
      show (if q = (fK x v c t).1 then v t else (fK x v c t).2.1 q) ≠ x ∧ (if q = (fK x v c t).1 then v t else (fK x v c t).2.1 q) < N ∧ (if q = (fK x v c t).1 then c t else (fK x v c t).2.2 q) ≤ 20
      by_cases e : q = (fK x v c t).1
      · rw [if_pos e, if_pos e]; exact ⟨h, (hv t (by omega)).1, (hv t (by omega)).2⟩
      · rw [if_neg e, if_neg e]; exact ih q (by omega)
/-- t readings looked at in the two rows A, B -/
def kA (x n : Nat) (v c : Nat → Nat) (A B : Nat → Int32) (t : Nat) : Prop := (∀ q, q < (fK x v c t).1 → A q = nI ((fK x v c t).2.1 q) ∧ B q = nI ((fK x v c t).2.2 q)) ∧ ∀ q, t ≤ q → q < n → A q = nI (v q) ∧ B q = nI (c q)
theorem kA_p {x n t : Nat} {v c : Nat → Nat} {A B : Nat → Int32} (h : kA x n v c A B t) (hx : v t = x) : kA x n v c A B (t + 1) := by
  unfold kA; rw [fK_p hx]; exact ⟨h.1, fun q h1 h2 => h.2 q (by omega) h2⟩
theorem kA_n {x n t : Nat} {v c : Nat → Nat} {A B : Nat → Int32} (h : kA x n v c A B t) (ht : t < n) (hx : ¬ v t = x) : kA x n v c (upd A (fK x v c t).1 (A t)) (upd B (fK x v c t).1 (B t)) (t + 1) := by
  have hle := fK_le x v c t
  unfold kA
  rw [fK_n hx]
  refine ⟨fun q hq => ?_, fun q h1 h2 => ?_⟩
  · have hq' : q < (fK x v c t).1 + 1 := hq
    show upd A (fK x v c t).1 (A t) q = nI (if q = (fK x v c t).1 then v t else (fK x v c t).2.1 q) ∧ upd B (fK x v c t).1 (B t) q = nI (if q = (fK x v c t).1 then c t else (fK x v c t).2.2 q)
    by_cases e : q = (fK x v c t).1
    · rw [if_pos e, if_pos e, e, upd_s, upd_s]; exact h.2 t (Nat.le_refl _) ht
    · rw [if_neg e, if_neg e, upd_o e, upd_o e]; exact h.1 q (by omega)
  · rw [upd_o (by omega), upd_o (by omega)]; exact h.2 q (by omega) h2
theorem G_Rd_forget_0 {d : Nat} {x1 : Int32} {w : xWd} {Q : xMV → xWd → Prop} (h : xWp d m_Rd_forget 4 [xA 2 39, xI x1, xI 0, xI 0] [] w Q) : xWp d m_Rd_forget 0 [xA 2 39, xI x1, xU, xU] [] w Q := by
  refine x_goN 4 (pc' := 4) (ls' := [xA 2 39, xI x1, xI 0, xI 0]) (st' := []) (w' := w) rfl ?_
  exact h
theorem G_Rd_forget_4 {d : Nat} {x1 : Int32} {x2 : Int32} {x3 : Int32} {w : xWd} {Q : xMV → xWd → Prop} (h : ((w 39 2 ≤ x3 → (∀ w1 : xWd, w1 = x_set w 39 2 x2 → Q xU w1)) ∧ (¬ (w 39 2 ≤ x3) → (vp_in x3 8 ∧ ((w 1249 x3.toNatClampNeg = x1 → xWp d m_Rd_forget 4 [xA 2 39, xI x1, xI x2, xI (x3 + 1)] [] w Q) ∧ (¬ (w 1249 x3.toNatClampNeg = x1) → (vp_in x3 8 ∧ (vp_in x2 8 ∧ ∀ w2 : xWd, w2 = x_set w 1249 x2.toNatClampNeg (w 1249 x3.toNatClampNeg) → (vp_in x3 8 ∧ (vp_in x2 8 ∧ ∀ w3 : xWd, w3 = x_set w2 1250 x2.toNatClampNeg (w2 1250 x3.toNatClampNeg) → xWp d m_Rd_forget 4 [xA 2 39, xI x1, xI (x2 + 1), xI (x3 + 1)] [] w3 Q)))))))))) : xWp d m_Rd_forget 4 [xA 2 39, xI x1, xI x2, xI x3] [] w Q := by
  refine x_goN 4 (pc' := if w 39 2 ≤ x3 then 55 else 12) (ls' := [xA 2 39, xI x1, xI x2, xI x3]) (st' := []) (w' := w) rfl ?_
  refine x_br (fun c1 => ?_) (fun c1 => ?_)
  · skip
    refine x_goN 2 (pc' := 57) (ls' := [xA 2 39, xI x1, xI x2, xI x3]) (st' := [xI x2, xA 2 39]) (w' := w) rfl ?_
    refine x_goW (pc' := 60) (ls' := [xA 2 39, xI x1, xI x2, xI x3]) (st' := []) (w' := x_set w 39 2 x2) rfl (fun w1 ew1 => ?_)
    exact x_ret (P := True) rfl trivial ((h.1 c1) w1 ew1)
  · skip
    refine x_goN 3 (pc' := 17) (ls' := [xA 2 39, xI x1, xI x2, xI x3]) (st' := [xI x3, xA 108 1249]) (w' := w) rfl ?_
    refine x_ob (P := vp_in x3 8) (pc' := 18) (ls' := [xA 2 39, xI x1, xI x2, xI x3]) (st' := [xI (w 1249 x3.toNatClampNeg)]) (w' := w) rfl (h.2 c1).1 ?_
    refine x_goN 2 (pc' := if w 1249 x3.toNatClampNeg = x1 then 49 else 22) (ls' := [xA 2 39, xI x1, xI x2, xI x3]) (st' := []) (w' := w) rfl ?_
    refine x_br (fun c2 => ?_) (fun c2 => ?_)
    · skip
      refine x_goN 2 (pc' := 4) (ls' := [xA 2 39, xI x1, xI x2, xI (x3 + 1)]) (st' := []) (w' := w) rfl ?_
      exact ((h.2 c1).2.1 c2)
    · skip
      refine x_goN 6 (pc' := 32) (ls' := [xA 2 39, xI x1, xI x2, xI x3]) (st' := [xI x3, xA 108 1249, xI x2, xA 108 1249]) (w' := w) rfl ?_
      refine x_ob (P := vp_in x3 8) (pc' := 33) (ls' := [xA 2 39, xI x1, xI x2, xI x3]) (st' := [xI (w 1249 x3.toNatClampNeg), xI x2, xA 108 1249]) (w' := w) rfl ((h.2 c1).2.2 c2).1 ?_
      refine x_obW (P := vp_in x2 8) (pc' := 34) (ls' := [xA 2 39, xI x1, xI x2, xI x3]) (st' := []) (w' := x_set w 1249 x2.toNatClampNeg (w 1249 x3.toNatClampNeg)) rfl ((h.2 c1).2.2 c2).2.1 (fun w2 ew2 => ?_)
      refine x_goN 6 (pc' := 44) (ls' := [xA 2 39, xI x1, xI x2, xI x3]) (st' := [xI x3, xA 108 1250, xI x2, xA 108 1250]) (w' := w2) rfl ?_
      refine x_ob (P := vp_in x3 8) (pc' := 45) (ls' := [xA 2 39, xI x1, xI x2, xI x3]) (st' := [xI (w2 1250 x3.toNatClampNeg), xI x2, xA 108 1250]) (w' := w2) rfl (((h.2 c1).2.2 c2).2.2 w2 ew2).1 ?_
      refine x_obW (P := vp_in x2 8) (pc' := 46) (ls' := [xA 2 39, xI x1, xI x2, xI x3]) (st' := []) (w' := x_set w2 1250 x2.toNatClampNeg (w2 1250 x3.toNatClampNeg)) rfl (((h.2 c1).2.2 c2).2.2 w2 ew2).2.1 (fun w3 ew3 => ?_)
      refine x_goN 3 (pc' := 4) (ls' := [xA 2 39, xI x1, xI (x2 + 1), xI (x3 + 1)]) (st' := []) (w' := w3) rfl ?_
      exact ((((h.2 c1).2.2 c2).2.2 w2 ew2).2.2 w3 ew3)
theorem L_Rd_forget {d x n : Nat} {v c : Nat → Nat} {Q : xMV → xWd → Prop} (hn : n ≤ 8) (hx : x < 8) (hv : ∀ q, q < n → v q < 8) : ∀ (m t : Nat) (w : xWd), t + m = n → w 39 2 = nI n → kA x n v c (w 1249) (w 1250) t → (∀ w', (∀ a, a ≠ 39 → a ≠ 1249 → a ≠ 1250 → w' a = w a) → w' 39 2 = nI (fK x v c n).1 → kA x n v c (w' 1249) (w' 1250) n → Q xU w') → xWp d m_Rd_forget 4 [xA 2 39, xI (nI x), xI (nI (fK x v c t).1), xI (nI t)] [] w Q := by
  intro m
  induction m with
  | zero =>
    intro t w ht h3 hk hq
    have e : t = n := by omega
    subst e
    refine G_Rd_forget_4 ?_
    rw [h3]
    exact ⟨fun _ w1 e1 => hq w1 (fun a a1 _ _ => by rw [e1, x_set_o a1]) (by rw [e1, x_set_s, upd_s]) (by rw [e1, x_set_o (by decide), x_set_o (by decide)]; exact hk), fun c => absurd ((z_le (by omega) (by omega)).mpr (Nat.le_refl _)) c⟩
  | succ m ih =>
    intro t w ht h3 hk hq
    have hle := fK_le x v c t
    have hvt := hv t (by omega)
    refine G_Rd_forget_4 ?_
    rw [h3, z_cl' (show t < 2 ^ 31 by omega), (hk.2 t (Nat.le_refl _) (by omega)).1, nI_1]
    have hin : vp_in (nI t) 8 := z_in (by omega) (by decide)
    have hin2 : vp_in (nI (fK x v c t).1) 8 := z_in (by omega) (by decide)
    refine ⟨fun q => absurd ((z_le (by omega) (by omega)).mp q) (by omega), fun _ => ⟨hin, fun q => ?_, fun q => ⟨hin, hin2, fun w2 e2 => ⟨hin, hin2, fun w3 e3 => ?_⟩⟩⟩⟩
    · have hx' := (z_eq (by omega) (by omega)).mp q
      have := ih (t + 1) w (by omega) h3 (kA_p hk hx') hq
      rw [fK_p hx'] at this; exact this
    · have hx' : ¬ v t = x := fun e => q (by rw [e])
      have hk' := kA_n hk (by omega) hx'
      rw [(hk.2 t (Nat.le_refl _) (by omega)).1] at hk'
      rw [z_cl' (by omega)] at e2 e3
      have a3 : w3 1249 = upd (w 1249) (fK x v c t).1 (nI (v t)) := by rw [e3, x_set_o (by decide), e2, x_set_s]
      have a4 : w3 1250 = upd (w 1250) (fK x v c t).1 (w 1250 t) := by rw [e3, x_set_s, e2, x_set_o (by decide)]
      have := ih (t + 1) w3 (by omega) (by rw [e3, x_set_o (by decide), e2, x_set_o (by decide)]; exact h3) (by rw [a3, a4]; exact hk') (fun w' hf h1 h2 => hq w' (fun a a1 a2 a3 => by rw [hf a a1 a2 a3, e3, x_set_o a3, e2, x_set_o a2]) h1 h2)
      rw [fK_n hx'] at this
      rw [nI_1]
      exact this
theorem G_Md_cut_0 {d : Nat} {w : xWd} {Q : xMV → xWd → Prop} (h : ((2 ≤ w 2 5 → (∀ w1 : xWd, w1 = x_set w 2 5 ((w 2 5) - 1) → xWp d m_Md_cut 25 [xA 7 2, xI 0, xI 0] [] w1 Q)) ∧ (¬ (2 ≤ w 2 5) → Q (xI (-3)) w))) : xWp d m_Md_cut 0 [xA 7 2, xU, xU] [] w Q := by
  refine x_goN 4 (pc' := if 2 ≤ w 2 5 then 11 else 8) (ls' := [xA 7 2, xU, xU]) (st' := []) (w' := w) rfl ?_
  refine x_br (fun c1 => ?_) (fun c1 => ?_)
  · skip
    refine x_goN 5 (pc' := 18) (ls' := [xA 7 2, xU, xU]) (st' := [xI ((w 2 5) - 1), xA 7 2]) (w' := w) rfl ?_
    refine x_goW (pc' := 21) (ls' := [xA 7 2, xU, xU]) (st' := []) (w' := x_set w 2 5 ((w 2 5) - 1)) rfl (fun w1 ew1 => ?_)
    refine x_goN 4 (pc' := 25) (ls' := [xA 7 2, xI 0, xI 0]) (st' := []) (w' := w1) rfl ?_
    exact ((h.1 c1) w1 ew1)
  · skip
    refine x_goN 1 (pc' := 10) (ls' := [xA 7 2, xU, xU]) (st' := [xI (-3)]) (w' := w) rfl ?_
    exact x_ret (P := True) rfl trivial (h.2 c1)
theorem G_Md_cut_25 {d : Nat} {x1 : Int32} {x2 : Int32} {w : xWd} {Q : xMV → xWd → Prop} (h : ((w 2 26 ≤ x2 → (∀ w1 : xWd, w1 = x_set w 2 26 x1 → Q (xI (w1 2 5)) w1)) ∧ (¬ (w 2 26 ≤ x2) → (vp_in x2 8 ∧ ((w 92 x2.toNatClampNeg = w 2 5 → xWp d m_Md_cut 25 [xA 7 2, xI x1, xI (x2 + 1)] [] w Q) ∧ (¬ (w 92 x2.toNatClampNeg = w 2 5) → (vp_in x2 8 ∧ (vp_in x1 8 ∧ ∀ w2 : xWd, w2 = x_set w 92 x1.toNatClampNeg (w 92 x2.toNatClampNeg) → (vp_in x2 8 ∧ (vp_in x1 8 ∧ ∀ w3 : xWd, w3 = x_set w2 93 x1.toNatClampNeg (w2 93 x2.toNatClampNeg) → xWp d m_Md_cut 25 [xA 7 2, xI (x1 + 1), xI (x2 + 1)] [] w3 Q)))))))))) : xWp d m_Md_cut 25 [xA 7 2, xI x1, xI x2] [] w Q := by
  refine x_goN 4 (pc' := if w 2 26 ≤ x2 then 79 else 33) (ls' := [xA 7 2, xI x1, xI x2]) (st' := []) (w' := w) rfl ?_
  refine x_br (fun c1 => ?_) (fun c1 => ?_)
  · skip
    refine x_goN 2 (pc' := 81) (ls' := [xA 7 2, xI x1, xI x2]) (st' := [xI x1, xA 7 2]) (w' := w) rfl ?_
    refine x_goW (pc' := 84) (ls' := [xA 7 2, xI x1, xI x2]) (st' := []) (w' := x_set w 2 26 x1) rfl (fun w1 ew1 => ?_)
    refine x_goN 2 (pc' := 88) (ls' := [xA 7 2, xI x1, xI x2]) (st' := [xI (w1 2 5)]) (w' := w1) rfl ?_
    exact x_ret (P := True) rfl trivial ((h.1 c1) w1 ew1)
  · skip
    refine x_goN 3 (pc' := 38) (ls' := [xA 7 2, xI x1, xI x2]) (st' := [xI x2, xA 108 92]) (w' := w) rfl ?_
    refine x_ob (P := vp_in x2 8) (pc' := 39) (ls' := [xA 7 2, xI x1, xI x2]) (st' := [xI (w 92 x2.toNatClampNeg)]) (w' := w) rfl (h.2 c1).1 ?_
    refine x_goN 3 (pc' := if w 92 x2.toNatClampNeg = w 2 5 then 73 else 46) (ls' := [xA 7 2, xI x1, xI x2]) (st' := []) (w' := w) rfl ?_
    refine x_br (fun c2 => ?_) (fun c2 => ?_)
    · skip
      refine x_goN 2 (pc' := 25) (ls' := [xA 7 2, xI x1, xI (x2 + 1)]) (st' := []) (w' := w) rfl ?_
      exact ((h.2 c1).2.1 c2)
    · skip
      refine x_goN 6 (pc' := 56) (ls' := [xA 7 2, xI x1, xI x2]) (st' := [xI x2, xA 108 92, xI x1, xA 108 92]) (w' := w) rfl ?_
      refine x_ob (P := vp_in x2 8) (pc' := 57) (ls' := [xA 7 2, xI x1, xI x2]) (st' := [xI (w 92 x2.toNatClampNeg), xI x1, xA 108 92]) (w' := w) rfl ((h.2 c1).2.2 c2).1 ?_
      refine x_obW (P := vp_in x1 8) (pc' := 58) (ls' := [xA 7 2, xI x1, xI x2]) (st' := []) (w' := x_set w 92 x1.toNatClampNeg (w 92 x2.toNatClampNeg)) rfl ((h.2 c1).2.2 c2).2.1 (fun w2 ew2 => ?_)
      refine x_goN 6 (pc' := 68) (ls' := [xA 7 2, xI x1, xI x2]) (st' := [xI x2, xA 108 93, xI x1, xA 108 93]) (w' := w2) rfl ?_
      refine x_ob (P := vp_in x2 8) (pc' := 69) (ls' := [xA 7 2, xI x1, xI x2]) (st' := [xI (w2 93 x2.toNatClampNeg), xI x1, xA 108 93]) (w' := w2) rfl (((h.2 c1).2.2 c2).2.2 w2 ew2).1 ?_
      refine x_obW (P := vp_in x1 8) (pc' := 70) (ls' := [xA 7 2, xI x1, xI x2]) (st' := []) (w' := x_set w2 93 x1.toNatClampNeg (w2 93 x2.toNatClampNeg)) rfl (((h.2 c1).2.2 c2).2.2 w2 ew2).2.1 (fun w3 ew3 => ?_)
      refine x_goN 3 (pc' := 25) (ls' := [xA 7 2, xI (x1 + 1), xI (x2 + 1)]) (st' := []) (w' := w3) rfl ?_
      exact ((((h.2 c1).2.2 c2).2.2 w2 ew2).2.2 w3 ew3)
theorem L_Md_cut {d x n : Nat} {v c : Nat → Nat} {Q : xMV → xWd → Prop} (hn : n ≤ 8) (hx : x < 8) (hv : ∀ q, q < n → v q < 8) : ∀ (m t : Nat) (w : xWd), t + m = n → w 2 26 = nI n → w 2 5 = nI x → kA x n v c (w 92) (w 93) t → (∀ w', (∀ a, a ≠ 2 → a ≠ 92 → a ≠ 93 → w' a = w a) → (∀ j, j ≠ 26 → w' 2 j = w 2 j) → w' 2 26 = nI (fK x v c n).1 → kA x n v c (w' 92) (w' 93) n → Q (xI (nI x)) w') → xWp d m_Md_cut 25 [xA 7 2, xI (nI (fK x v c t).1), xI (nI t)] [] w Q := by
  intro m
  induction m with
  | zero =>
    intro t w ht h3 h5 hk hq
    have e : t = n := by omega
    subst e
    refine G_Md_cut_25 ?_
    rw [h3]
    refine ⟨fun _ w1 e1 => ?_, fun c => absurd ((z_le (by omega) (by omega)).mpr (Nat.le_refl _)) c⟩
    have a5 : w1 2 5 = nI x := by rw [e1, x_set_s, upd_o (by decide)]; exact h5
    rw [a5]
    exact hq w1 (fun a a1 _ _ => by rw [e1, x_set_o a1]) (fun j hj => by rw [e1, x_set_s, upd_o hj]) (by rw [e1, x_set_s, upd_s]) (by rw [e1, x_set_o (by decide), x_set_o (by decide)]; exact hk)
  | succ m ih =>
    intro t w ht h3 h5 hk hq
    have hle := fK_le x v c t
    have hvt := hv t (by omega)
    refine G_Md_cut_25 ?_
    rw [h3, h5, z_cl' (show t < 2 ^ 31 by omega), (hk.2 t (Nat.le_refl _) (by omega)).1, nI_1]
    have hin : vp_in (nI t) 8 := z_in (by omega) (by decide)
    have hin2 : vp_in (nI (fK x v c t).1) 8 := z_in (by omega) (by decide)
    refine ⟨fun q => absurd ((z_le (by omega) (by omega)).mp q) (by omega), fun _ => ⟨hin, fun q => ?_, fun q => ⟨hin, hin2, fun w2 e2 => ⟨hin, hin2, fun w3 e3 => ?_⟩⟩⟩⟩
    · have hx' := (z_eq (by omega) (by omega)).mp q
      have := ih (t + 1) w (by omega) h3 h5 (kA_p hk hx') hq
      rw [fK_p hx'] at this; exact this
    · have hx' : ¬ v t = x := fun e => q (by rw [e])
      have hk' := kA_n hk (by omega) hx'
      rw [(hk.2 t (Nat.le_refl _) (by omega)).1] at hk'
      rw [z_cl' (by omega)] at e2 e3
      have a3 : w3 92 = upd (w 92) (fK x v c t).1 (nI (v t)) := by rw [e3, x_set_o (by decide), e2, x_set_s]
      have a4 : w3 93 = upd (w 93) (fK x v c t).1 (w 93 t) := by rw [e3, x_set_s, e2, x_set_o (by decide)]
      have a2 : w3 2 = w 2 := by rw [e3, x_set_o (by decide), e2, x_set_o (by decide)]
      have := ih (t + 1) w3 (by omega) (by rw [a2]; exact h3) (by rw [a2]; exact h5) (by rw [a3, a4]; exact hk') (fun w' hf h0 h1 h2 => hq w' (fun a a1 a2 a3 => by rw [hf a a1 a2 a3, e3, x_set_o a3, e2, x_set_o a2]) (fun j hj => by rw [h0 j hj, a2]) h1 h2)
      rw [fK_n hx'] at this
      rw [nI_1]
      exact this

