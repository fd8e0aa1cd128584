/-! GROW: the calls -/
theorem wi2 {x : Int32} : p_wi x 0 2 ↔ p_rg x 0 2 := by
  unfold p_wi p_rg; rw [e_l0, e_l2]
theorem pG_iff {T : xT} {o v : Nat} (h8 : tn T ≤ 8) (ho : o < tn T) (hv : v < tn T) : pG T (nI o) (nI v) ↔ (o = v ∨ tb T o v = true) := by
  constructor
  · rintro (e | e | ⟨a, b, e1, e2, ha, hb, hab⟩)
    · exact absurd e.symm (z_n9 (n := v) (by omega))
    · exact Or.inl ((z_eq (by omega) (by omega)).mp e).symm
    · have := (z_eq (by omega) (by omega)).mp e1
      subst this
      have := (z_eq (by omega) (by omega)).mp e2
      subst this
      exact Or.inr hab
  · rintro (e | e)
    · exact Or.inr (Or.inl (by rw [e]))
    · exact Or.inr (Or.inr ⟨o, v, rfl, rfl, ho, hv, e⟩)
section GR
variable {d : Nat} {s : xS} {w : xWd} {Q : xMV → xWd → Prop} {x1 x2 x3 x4 : Int32}
theorem CG_0 (h : sC s w) (h1 : p_rg x1 0 2) (h2 : pL (s_T s) x2) (h3 : pN (s_T s) x3) (h4 : pN (s_T s) x4) (h5 : x3 = -9 → x4 = -9) (K : xWp (d + 2) m_Vp_wouldBeBelow 0 [xA 6 1, xI x2, xI x3] [] w (fun a w' => xWp (d + 3) m_Vp_grow 59 [xA 6 1, xI x1, xI x2, xI x3, xI x4, xU] (x_pu a []) w' Q)) : xWp (d + 3) m_Vp_grow 0 [xA 6 1, xI x1, xI x2, xI x3, xI x4, xU] [] w Q := by
  refine G_Vp_grow_0 ⟨fun _ => ⟨fun _ => ?_, fun c => absurd ((pL_C h).mpr h2) c⟩, fun c => absurd h1 c⟩
  refine S_isLineOrNone h (fun _ => ?_) (fun c => absurd h3 c)
  refine G_Vp_grow_26 ⟨fun c => absurd c n_10, fun _ => ?_⟩
  refine S_isLineOrNone h (fun _ => ?_) (fun c => absurd h4 c)
  exact G_Vp_grow_35 ⟨fun c => absurd c n_10, fun _ => ⟨fun c => ⟨fun _ => K, fun c2 => absurd (h5 c) c2⟩, fun _ => K⟩⟩
theorem MG_0 (h : sM s w) (h1 : p_rg x1 0 2) (h2 : pL (s_T s) x2) (h3 : pN (s_T s) x3) (h4 : pN (s_T s) x4) (h5 : x3 = -9 → x4 = -9) (K : xWp (d + 2) m_Md_grow 58 [xA 7 2, xI x1, xI x2, xI x3, xI x4] [] w Q) : xWp (d + 2) m_Md_grow 0 [xA 7 2, xI x1, xI x2, xI x3, xI x4] [] w Q := by
  have K34 : xWp (d + 2) m_Md_grow 34 [xA 7 2, xI x1, xI x2, xI x3, xI x4] [] w Q :=
    G_Md_grow_34 ⟨fun _ => K, fun c => ⟨fun _ => ⟨fun c3 => absurd (h5 c3) c, fun _ => K⟩, fun c2 => absurd ((pL_M h).mpr (h4.resolve_left c)) c2⟩⟩
  exact G_Md_grow_0 ⟨fun _ => ⟨fun _ => ⟨fun _ => K34, fun c => ⟨fun _ => K34, fun c2 => absurd ((pL_M h).mpr (h3.resolve_left c)) c2⟩⟩, fun c => absurd ((pL_M h).mpr h2) c⟩, fun c => absurd (wi2.mpr h1) c⟩
/-- the class: the new line is below what it uses -/
theorem CG_59 (h : sC s w) (h6 : pG (s_T s) x2 x3) (h7 : pG (s_T s) x2 x4) (h8 : x3 ≠ -9 → x3 ≠ x4)
    (K : xWp (d + 3) m_Vp_grow 69 [xA 6 1, xI x1, xI x2, xI x3, xI x4, xU] [xI 1] w Q) : xWp (d + 2) m_Vp_wouldBeBelow 0 [xA 6 1, xI x2, xI x3] [] w (fun a w' => xWp (d + 3) m_Vp_grow 59 [xA 6 1, xI x1, xI x2, xI x3, xI x4, xU] (x_pu a []) w' Q) := by
  refine S_wouldBeBelow h (fun _ => ?_) (fun c => absurd h6 c)
  refine G_Vp_grow_59 ⟨fun c => absurd c n_10, fun _ => ?_⟩
  exact S_wouldBeBelow h (fun _ => K) (fun c => absurd h7 c)
theorem MG_58 (h : sM s w) (h2 : pL (s_T s) x2) (h3 : pN (s_T s) x3) (h4 : pN (s_T s) x4) (h6 : pG (s_T s) x2 x3) (h7 : pG (s_T s) x2 x4) (h8 : x4 ≠ -9 → x3 ≠ x4) (K : xWp (d + 2) m_Md_grow 99 [xA 7 2, xI x1, xI x2, xI x3, xI x4] [] w Q) : xWp (d + 2) m_Md_grow 58 [xA 7 2, xI x1, xI x2, xI x3, xI x4] [] w Q := by
  have hn8 := s_n8 h.1
  obtain ⟨o, ho, rfl⟩ := h2
  have K73 : xWp (d + 2) m_Md_grow 73 [xA 7 2, xI x1, xI (nI o), xI x3, xI x4] [] w Q := by
    refine G_Md_grow_73 ⟨fun _ => K, fun c => ?_⟩
    obtain ⟨v, hv, rfl⟩ := h4.resolve_left c
    exact S_Md_isAboveOr (sM_S h) ho hv (fun _ => G_Md_grow_87 ⟨fun c => absurd c n_10, fun _ => ⟨fun c2 => absurd c2 (h8 c), fun _ => K⟩⟩) (fun q => absurd ((pG_iff hn8 ho hv).mp h7) q)
  refine G_Md_grow_58 ⟨fun _ => K73, fun c => ?_⟩
  obtain ⟨v, hv, rfl⟩ := h3.resolve_left c
  exact S_Md_isAboveOr (sM_S h) ho hv (fun _ => G_Md_grow_70 ⟨fun c => absurd c n_10, fun _ => K73⟩) (fun q => absurd ((pG_iff hn8 ho hv).mp h6) q)
end GR
theorem O_grow (s : xS) (x1 x2 x3 x4 : Int32) : oB m_Vp_grow [xA 6 1, xI x1, xI x2, xI x3, xI x4, xU] m_Md_grow [xA 7 2, xI x1, xI x2, xI x3, xI x4] s := by
  by_cases h1 : p_rg x1 0 2
  · by_cases h2 : pL (s_T s) x2
    · by_cases h3 : pN (s_T s) x3
      · by_cases h4 : pN (s_T s) x4
        · by_cases h5 : x3 = -9 → x4 = -9
          · by_cases h6 : pG (s_T s) x2 x3
            · by_cases h7 : pG (s_T s) x2 x4
              · by_cases h8 : x3 ≠ -9 → x3 ≠ x4
                · have h8' : x4 ≠ -9 → x3 ≠ x4 := fun q => h8 (fun r => q (h5 r))
                  by_cases hn : tn (s_T s) < 8
                  · obtain ⟨k, hk, rfl⟩ := rg2.mp h1
                    obtain ⟨o, ho, rfl⟩ := h2
                    refine ⟨(nI (tn (s_T s))), uT s (tGr (s_T s) k o x3 x4), fun w h => ?_, fun w h => ?_⟩
                    · refine CG_0 h h1 ⟨o, ho, rfl⟩ h3 h4 h5 (CG_59 h h6 h7 h8 ?_)
                      have hw := sC_n h
                      have hlt : w 34 8 < 8 := by rw [hw]; exact (z_lt (b := 8) (by omega) (by decide)).mpr hn
                      have fin := C_grow (d := 3) (x5 := w 34 8) (Q := fun a w' => a = xI (nI (tn (s_T s))) ∧ sC (uT s (tGr (s_T s) k o x3 x4)) w' ∧ fC w w') h hn (by omega) ho h6 h7 h5 h8 (fun w' h' f' => ⟨by rw [hw], h', f'⟩)
                      exact G_Vp_grow_69 ⟨fun c => absurd c n_10, fun _ => ⟨fun _ => ⟨fun _ => fin, fun c => absurd hlt c⟩, fun c => ⟨fun c2 => absurd c2 (h8 c), fun _ => ⟨fun _ => fin, fun c => absurd hlt c⟩⟩⟩⟩
                    · exact MG_0 h h1 ⟨o, ho, rfl⟩ h3 h4 h5 (MG_58 h ⟨o, ho, rfl⟩ h3 h4 h6 h7 h8' (M_grow h hn (by omega) ho h6 h7 h5 h8 (fun w' h' f' => ⟨rfl, h', f'⟩)))
                  · refine ⟨(-4), s, fun w h => ?_, fun w h => ?_⟩
                    · have h8n := s_n8 h.1
                      have hge : ¬ w 34 8 < 8 := by rw [sC_n h]; exact fun q => hn ((z_lt (b := 8) (by omega) (by decide)).mp q)
                      exact CG_0 h h1 h2 h3 h4 h5 (CG_59 h h6 h7 h8 (G_Vp_grow_69 ⟨fun c => absurd c n_10, fun _ => ⟨fun _ => ⟨fun c => absurd c hge, fun _ => cE h⟩, fun c => ⟨fun c2 => absurd c2 (h8 c), fun _ => ⟨fun c => absurd c hge, fun _ => cE h⟩⟩⟩⟩))
                    · have h8n := s_n8 h.1
                      have he : w 2 5 = 8 := by rw [sM_n h]; exact (z_eq (b := 8) (by omega) (by decide)).mpr (by omega)
                      exact MG_0 h h1 h2 h3 h4 h5 (MG_58 h h2 h3 h4 h6 h7 h8' (G_Md_grow_99 ⟨fun _ => mE h, fun c => absurd he c⟩))
                · have hx : x3 ≠ -9 := fun q => h8 (fun r => absurd q r)
                  have hxy : x3 = x4 := Classical.byContradiction (fun q => h8 (fun _ => q))
                  have hy : x4 ≠ -9 := fun q => hx (hxy.trans q)
                  refine ⟨(-3), s, fun w h => ?_, fun w h => ?_⟩
                  · refine CG_0 h h1 h2 h3 h4 h5 (S_wouldBeBelow h (fun _ => ?_) (fun c => absurd h6 c))
                    refine G_Vp_grow_59 ⟨fun c => absurd c n_10, fun _ => S_wouldBeBelow h (fun _ => ?_) (fun c => absurd h7 c)⟩
                    exact G_Vp_grow_69 ⟨fun c => absurd c n_10, fun _ => ⟨fun c => absurd c hx, fun _ => ⟨fun _ => cE h, fun c => absurd hxy c⟩⟩⟩
                  · have hn8 := s_n8 h.1
                    obtain ⟨o, ho, rfl⟩ := h2
                    obtain ⟨v, hv, rfl⟩ := h4.resolve_left hy
                    subst hxy
                    have K73 : xWp 6 m_Md_grow 73 [xA 7 2, xI x1, xI (nI o), xI (nI v), xI (nI v)] [] w (fun a w' => a = xI (-3) ∧ sM s w' ∧ fM w w') :=
                      G_Md_grow_73 ⟨fun c => absurd c hy, fun _ => S_Md_isAboveOr (sM_S h) ho hv (fun _ => G_Md_grow_87 ⟨fun c => absurd c n_10, fun _ => ⟨fun _ => mE h, fun c2 => absurd rfl c2⟩⟩) (fun q => absurd ((pG_iff hn8 ho hv).mp h7) q)⟩
                    refine MG_0 h h1 ⟨o, ho, rfl⟩ h3 h4 h5 (G_Md_grow_58 ⟨fun c => absurd c hx, fun _ => ?_⟩)
                    exact S_Md_isAboveOr (sM_S h) ho hv (fun _ => G_Md_grow_70 ⟨fun c => absurd c n_10, fun _ => K73⟩) (fun q => absurd ((pG_iff hn8 ho hv).mp h6) q)
              · have hy : x4 ≠ -9 := fun q => h7 (Or.inl q)
                refine ⟨(-3), s, fun w h => ?_, fun w h => ?_⟩
                · refine CG_0 h h1 h2 h3 h4 h5 (S_wouldBeBelow h (fun _ => ?_) (fun c => absurd h6 c))
                  refine G_Vp_grow_59 ⟨fun c => absurd c n_10, fun _ => S_wouldBeBelow h (fun c => absurd c h7) (fun _ => ?_)⟩
                  exact G_Vp_grow_69 ⟨fun _ => cE h, fun c => absurd rfl c⟩
                · have hn8 := s_n8 h.1
                  obtain ⟨o, ho, rfl⟩ := h2
                  obtain ⟨v, hv, rfl⟩ := h4.resolve_left hy
                  have K73 : xWp 6 m_Md_grow 73 [xA 7 2, xI x1, xI (nI o), xI x3, xI (nI v)] [] w (fun a w' => a = xI (-3) ∧ sM s w' ∧ fM w w') :=
                    G_Md_grow_73 ⟨fun c => absurd c hy, fun _ => S_Md_isAboveOr (sM_S h) ho hv (fun q => absurd ((pG_iff hn8 ho hv).mpr q) h7) (fun _ => G_Md_grow_87 ⟨fun _ => mE h, fun c2 => absurd rfl c2⟩)⟩
                  refine MG_0 h h1 ⟨o, ho, rfl⟩ h3 h4 h5 (G_Md_grow_58 ⟨fun _ => K73, fun c => ?_⟩)
                  obtain ⟨u, hu, rfl⟩ := h3.resolve_left c
                  exact S_Md_isAboveOr (sM_S h) ho hu (fun _ => G_Md_grow_70 ⟨fun c => absurd c n_10, fun _ => K73⟩) (fun q => absurd ((pG_iff hn8 ho hu).mp h6) q)
            · have hx : x3 ≠ -9 := fun q => h6 (Or.inl q)
              refine ⟨(-3), s, fun w h => ?_, fun w h => ?_⟩
              · refine CG_0 h h1 h2 h3 h4 h5 (S_wouldBeBelow h (fun c => absurd c h6) (fun _ => ?_))
                exact G_Vp_grow_59 ⟨fun _ => cE h, fun c => absurd rfl c⟩
              · have hn8 := s_n8 h.1
                obtain ⟨o, ho, rfl⟩ := h2
                obtain ⟨u, hu, rfl⟩ := h3.resolve_left hx
                refine MG_0 h h1 ⟨o, ho, rfl⟩ h3 h4 h5 (G_Md_grow_58 ⟨fun c => absurd c hx, fun _ => ?_⟩)
                exact S_Md_isAboveOr (sM_S h) ho hu (fun q => absurd ((pG_iff hn8 ho hu).mpr q) h6) (fun _ => G_Md_grow_70 ⟨fun _ => mE h, fun c => absurd rfl c⟩)
          · have hx : x3 = -9 := Classical.byContradiction (fun q => h5 (fun r => absurd r q))
            have hy : x4 ≠ -9 := fun q => h5 (fun _ => q)
            refine ⟨(-1), s, fun w h => ?_, fun w h => ?_⟩
            · refine G_Vp_grow_0 ⟨fun _ => ⟨fun _ => ?_, fun _ => cE h⟩, fun c => absurd h1 c⟩
              refine S_isLineOrNone h (fun _ => ?_) (fun c => absurd h3 c)
              refine G_Vp_grow_26 ⟨fun c => absurd c n_10, fun _ => ?_⟩
              refine S_isLineOrNone h (fun _ => ?_) (fun c => absurd h4 c)
              exact G_Vp_grow_35 ⟨fun c => absurd c n_10, fun _ => ⟨fun _ => ⟨fun c2 => absurd c2 hy, fun _ => cE h⟩, fun c => absurd hx c⟩⟩
            · refine G_Md_grow_0 ⟨fun _ => ⟨fun _ => ⟨fun _ => ?_, fun c => absurd hx c⟩, fun _ => mE h⟩, fun c => absurd (wi2.mpr h1) c⟩
              exact G_Md_grow_34 ⟨fun c => absurd c hy, fun _ => ⟨fun _ => ⟨fun _ => mE h, fun c3 => absurd hx c3⟩, fun _ => mE h⟩⟩
        · have hy : x4 ≠ -9 := fun q => h4 (Or.inl q)
          have hy2 : ¬ pL (s_T s) x4 := fun q => h4 (Or.inr q)
          refine ⟨(-1), s, fun w h => ?_, fun w h => ?_⟩
          · refine G_Vp_grow_0 ⟨fun _ => ⟨fun _ => ?_, fun _ => cE h⟩, fun c => absurd h1 c⟩
            refine S_isLineOrNone h (fun _ => ?_) (fun c => absurd h3 c)
            refine G_Vp_grow_26 ⟨fun c => absurd c n_10, fun _ => ?_⟩
            refine S_isLineOrNone h (fun c => absurd c h4) (fun _ => ?_)
            exact G_Vp_grow_35 ⟨fun _ => cE h, fun c => absurd rfl c⟩
          · have K34 : xWp 6 m_Md_grow 34 [xA 7 2, xI x1, xI x2, xI x3, xI x4] [] w (fun a w' => a = xI (-1) ∧ sM s w' ∧ fM w w') :=
              G_Md_grow_34 ⟨fun c => absurd c hy, fun _ => ⟨fun c => absurd ((pL_M h).mp c) hy2, fun _ => mE h⟩⟩
            exact G_Md_grow_0 ⟨fun _ => ⟨fun _ => ⟨fun _ => K34, fun _ => ⟨fun _ => K34, fun _ => mE h⟩⟩, fun _ => mE h⟩, fun c => absurd (wi2.mpr h1) c⟩
      · have hx : x3 ≠ -9 := fun q => h3 (Or.inl q)
        have hx2 : ¬ pL (s_T s) x3 := fun q => h3 (Or.inr q)
        refine ⟨(-1), s, fun w h => ?_, fun w h => ?_⟩
        · refine G_Vp_grow_0 ⟨fun _ => ⟨fun _ => ?_, fun _ => cE h⟩, fun c => absurd h1 c⟩
          refine S_isLineOrNone h (fun c => absurd c h3) (fun _ => ?_)
          exact G_Vp_grow_26 ⟨fun _ => cE h, fun c => absurd rfl c⟩
        · exact G_Md_grow_0 ⟨fun _ => ⟨fun _ => ⟨fun c => absurd c hx, fun _ => ⟨fun c => absurd ((pL_M h).mp c) hx2, fun _ => mE h⟩⟩, fun _ => mE h⟩, fun c => absurd (wi2.mpr h1) c⟩
    · exact ⟨(-1), s, fun w h => G_Vp_grow_0 ⟨fun _ => ⟨fun c => absurd ((pL_C h).mp c) h2, fun _ => cE h⟩, fun c => absurd h1 c⟩, fun w h => G_Md_grow_0 ⟨fun _ => ⟨fun c => absurd ((pL_M h).mp c) h2, fun _ => mE h⟩, fun c => absurd (wi2.mpr h1) c⟩⟩
  · exact ⟨(-2), s, fun w h => G_Vp_grow_0 ⟨fun c => absurd c h1, fun _ => cE h⟩, fun w h => G_Md_grow_0 ⟨fun c => absurd (wi2.mp c) h1, fun _ => mE h⟩⟩

