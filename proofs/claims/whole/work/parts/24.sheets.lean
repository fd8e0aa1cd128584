/-! SHEETS, TELLING, READINGS -/
theorem cF {s : xS} {w w1 : xWd} {r : xMV} (h : sC s w1) (f : fC w w1) : r = r ∧ sC s w1 ∧ fC w w1 := ⟨rfl, h, f⟩
theorem mF {s : xS} {w w1 : xWd} {r : xMV} (h : sM s w1) (f : fM w w1) : r = r ∧ sM s w1 ∧ fM w w1 := ⟨rfl, h, f⟩
theorem fC_1 {w : xWd} {j : Nat} {v : Int32} : fC w (x_set w 1 j v) := fC_set (by omega)
theorem fM_2 {w : xWd} {j : Nat} {v : Int32} : fM w (x_set w 2 j v) := fM_set (by omega)
theorem sC_f {s : xS} {w w1 : xWd} {f : Int32} (h : sC s w) (e : w1 = x_set w 1 8 f) : sC (uF s f) w1 ∧ fC w w1 := ⟨e ▸ sC_uF h, e ▸ fC_1⟩
theorem sM_f {s : xS} {w w1 : xWd} {f : Int32} (h : sM s w) (e : w1 = x_set w 2 0 f) : sM (uF s f) w1 ∧ fM w w1 := ⟨e ▸ sM_uF h, e ▸ fM_2⟩
theorem wi_rg {x : Int32} : p_wi x 0 2 ↔ p_rg x 0 2 := Iff.rfl
theorem G_Vp_as_0 {d : Nat} {x1 : Int32} {x2 : Int32} {w : xWd} {Q : xMV → xWd → Prop} (h : (∀ w1 : xWd, w1 = x_set w 1 8 0 → ((p_lt x1 (w1 34 8) → ((p_rg x2 0 2 → (vp_in x1 8 ∧ ((w1 1089 x1.toNatClampNeg < x2 → (∀ w2 : xWd, w2 = x_set w1 1 8 2 → Q (xI (-12)) w2)) ∧ (¬ (w1 1089 x1.toNatClampNeg < x2) → Q (xI 1) w1)))) ∧ (¬ (p_rg x2 0 2) → Q (xI (-2)) w1))) ∧ (¬ (p_lt x1 (w1 34 8)) → Q (xI (-1)) w1)))) : xWp (d + 1) m_Vp_as 0 [xA 6 1, xI x1, xI x2] [] w Q := by
  refine x_goN 2 (pc' := 2) (ls' := [xA 6 1, xI x1, xI x2]) (st' := [xI 0, xA 6 1]) (w' := w) rfl ?_
  refine x_goW (pc' := 5) (ls' := [xA 6 1, xI x1, xI x2]) (st' := []) (w' := x_set w 1 8 0) rfl (fun w1 ew1 => ?_)
  refine x_goN 3 (pc' := 10) (ls' := [xA 6 1, xI x1, xI x2]) (st' := [xI x1, xA 5 34]) (w' := w1) rfl ?_
  refine x_call (y := m_Tr_isLine) (as := [xA 5 34, xI x1]) (rst := []) rfl [xA 5 34, xI x1] rfl ?_
  refine S_Tr_isLine (fun c1 => ?_) (fun c1 => ?_)
  · skip
    refine x_goN 1 (pc' := if (1 : Int32) = (0 : Int32) then 16 else 18) (ls' := [xA 6 1, xI x1, xI x2]) (st' := []) (w' := w1) rfl ?_
    refine x_brF (by decide) ?_
    refine x_goN 1 (pc' := 19) (ls' := [xA 6 1, xI x1, xI x2]) (st' := [xI x2]) (w' := w1) rfl ?_
    refine x_call (y := m_Vp_isKind) (as := [xI x2]) (rst := []) rfl [xI x2] rfl ?_
    refine S_Vp_isKind (fun c2 => ?_) (fun c2 => ?_)
    · skip
      refine x_goN 1 (pc' := if (1 : Int32) = (0 : Int32) then 25 else 28) (ls' := [xA 6 1, xI x1, xI x2]) (st' := []) (w' := w1) rfl ?_
      refine x_brF (by decide) ?_
      refine x_goN 5 (pc' := 37) (ls' := [xA 6 1, xI x1, xI x2]) (st' := [xI x1, xA 108 1089, xI x2]) (w' := w1) rfl ?_
      refine x_ob (P := vp_in x1 8) (pc' := 38) (ls' := [xA 6 1, xI x1, xI x2]) (st' := [xI (w1 1089 x1.toNatClampNeg), xI x2]) (w' := w1) rfl (((h w1 ew1).1 c1).1 c2).1 ?_
      refine x_goN 1 (pc' := if w1 1089 x1.toNatClampNeg < x2 then 45 else 41) (ls' := [xA 6 1, xI x1, xI x2]) (st' := []) (w' := w1) rfl ?_
      refine x_br (fun c3 => ?_) (fun c3 => ?_)
      · skip
        refine x_goN 2 (pc' := 47) (ls' := [xA 6 1, xI x1, xI x2]) (st' := [xI 2, xA 6 1]) (w' := w1) rfl ?_
        refine x_call (y := m_Vp_faulty) (as := [xA 6 1, xI 2]) (rst := []) rfl [xA 6 1, xI 2] rfl ?_
        refine S_Vp_faulty (fun w2 ew2 => ?_)
        exact x_ret (P := True) rfl trivial (((((h w1 ew1).1 c1).1 c2).2.1 c3) w2 ew2)
      · skip
        refine x_goN 2 (pc' := 50) (ls' := [xA 6 1, xI x1, xI x2]) (st' := [xI 1]) (w' := w1) rfl ?_
        exact x_ret (P := True) rfl trivial ((((h w1 ew1).1 c1).1 c2).2.2 c3)
    · skip
      refine x_goN 1 (pc' := if (0 : Int32) = (0 : Int32) then 25 else 28) (ls' := [xA 6 1, xI x1, xI x2]) (st' := []) (w' := w1) rfl ?_
      refine x_brT (by decide) ?_
      refine x_goN 1 (pc' := 27) (ls' := [xA 6 1, xI x1, xI x2]) (st' := [xI (-2)]) (w' := w1) rfl ?_
      exact x_ret (P := True) rfl trivial (((h w1 ew1).1 c1).2 c2)
  · skip
    refine x_goN 1 (pc' := if (0 : Int32) = (0 : Int32) then 16 else 18) (ls' := [xA 6 1, xI x1, xI x2]) (st' := []) (w' := w1) rfl ?_
    refine x_brT (by decide) ?_
    refine x_goN 1 (pc' := 17) (ls' := [xA 6 1, xI x1, xI x2]) (st' := [xI (-1)]) (w' := w1) rfl ?_
    exact x_ret (P := True) rfl trivial ((h w1 ew1).2 c1)
theorem G_Md_as_0 {d : Nat} {x1 : Int32} {x2 : Int32} {w : xWd} {Q : xMV → xWd → Prop} (h : (∀ w1 : xWd, w1 = x_set w 2 0 0 → ((p_lt x1 (w1 2 5) → ((p_wi x2 0 2 → (vp_in x1 8 ∧ ((w1 71 x1.toNatClampNeg < x2 → (∀ w2 : xWd, w2 = x_set w1 2 0 2 → Q (xI (-12)) w2)) ∧ (¬ (w1 71 x1.toNatClampNeg < x2) → Q (xI 1) w1)))) ∧ (¬ (p_wi x2 0 2) → Q (xI (-2)) w1))) ∧ (¬ (p_lt x1 (w1 2 5)) → Q (xI (-1)) w1)))) : xWp (d + 1) m_Md_as 0 [xA 7 2, xI x1, xI x2] [] w Q := by
  refine x_goN 2 (pc' := 2) (ls' := [xA 7 2, xI x1, xI x2]) (st' := [xI 0, xA 7 2]) (w' := w) rfl ?_
  refine x_goW (pc' := 5) (ls' := [xA 7 2, xI x1, xI x2]) (st' := []) (w' := x_set w 2 0 0) rfl (fun w1 ew1 => ?_)
  refine x_goN 2 (pc' := 7) (ls' := [xA 7 2, xI x1, xI x2]) (st' := [xI x1, xA 7 2]) (w' := w1) rfl ?_
  refine x_call (y := m_Md_isLine) (as := [xA 7 2, xI x1]) (rst := []) rfl [xA 7 2, xI x1] rfl ?_
  refine S_Md_isLine (fun c1 => ?_) (fun c1 => ?_)
  · skip
    refine x_goN 1 (pc' := if (1 : Int32) = (0 : Int32) then 13 else 15) (ls' := [xA 7 2, xI x1, xI x2]) (st' := []) (w' := w1) rfl ?_
    refine x_brF (by decide) ?_
    refine x_goN 3 (pc' := 18) (ls' := [xA 7 2, xI x1, xI x2]) (st' := [xI 2, xI 0, xI x2]) (w' := w1) rfl ?_
    refine x_call (y := m_Md_within) (as := [xI x2, xI 0, xI 2]) (rst := []) rfl [xI x2, xI 0, xI 2] rfl ?_
    refine S_Md_within (fun c2 => ?_) (fun c2 => ?_)
    · skip
      refine x_goN 1 (pc' := if (1 : Int32) = (0 : Int32) then 24 else 27) (ls' := [xA 7 2, xI x1, xI x2]) (st' := []) (w' := w1) rfl ?_
      refine x_brF (by decide) ?_
      refine x_goN 3 (pc' := 32) (ls' := [xA 7 2, xI x1, xI x2]) (st' := [xI x1, xA 108 71]) (w' := w1) rfl ?_
      refine x_ob (P := vp_in x1 8) (pc' := 33) (ls' := [xA 7 2, xI x1, xI x2]) (st' := [xI (w1 71 x1.toNatClampNeg)]) (w' := w1) rfl (((h w1 ew1).1 c1).1 c2).1 ?_
      refine x_goN 2 (pc' := if w1 71 x1.toNatClampNeg < x2 then 41 else 37) (ls' := [xA 7 2, xI x1, xI x2]) (st' := []) (w' := w1) rfl ?_
      refine x_br (fun c3 => ?_) (fun c3 => ?_)
      · skip
        refine x_goN 2 (pc' := 43) (ls' := [xA 7 2, xI x1, xI x2]) (st' := [xI 2, xA 7 2]) (w' := w1) rfl ?_
        refine x_call (y := m_Md_fails) (as := [xA 7 2, xI 2]) (rst := []) rfl [xA 7 2, xI 2] rfl ?_
        refine S_Md_fails (fun w2 ew2 => ?_)
        exact x_ret (P := True) rfl trivial (((((h w1 ew1).1 c1).1 c2).2.1 c3) w2 ew2)
      · skip
        refine x_goN 2 (pc' := 46) (ls' := [xA 7 2, xI x1, xI x2]) (st' := [xI 1]) (w' := w1) rfl ?_
        exact x_ret (P := True) rfl trivial ((((h w1 ew1).1 c1).1 c2).2.2 c3)
    · skip
      refine x_goN 1 (pc' := if (0 : Int32) = (0 : Int32) then 24 else 27) (ls' := [xA 7 2, xI x1, xI x2]) (st' := []) (w' := w1) rfl ?_
      refine x_brT (by decide) ?_
      refine x_goN 1 (pc' := 26) (ls' := [xA 7 2, xI x1, xI x2]) (st' := [xI (-2)]) (w' := w1) rfl ?_
      exact x_ret (P := True) rfl trivial (((h w1 ew1).1 c1).2 c2)
  · skip
    refine x_goN 1 (pc' := if (0 : Int32) = (0 : Int32) then 13 else 15) (ls' := [xA 7 2, xI x1, xI x2]) (st' := []) (w' := w1) rfl ?_
    refine x_brT (by decide) ?_
    refine x_goN 1 (pc' := 14) (ls' := [xA 7 2, xI x1, xI x2]) (st' := [xI (-1)]) (w' := w1) rfl ?_
    exact x_ret (P := True) rfl trivial ((h w1 ew1).2 c1)
theorem O_as (s : xS) (x1 x2 : Int32) : oB m_Vp_as [xA 6 1, xI x1, xI x2] m_Md_as [xA 7 2, xI x1, xI x2] s := by
  by_cases hp : pL (s_T s) x1
  · obtain ⟨a, ha, rfl⟩ := hp
    by_cases hr : p_rg x2 0 2
    · by_cases hk : nI (tk (s_T s) a) < x2
      · refine ⟨(-12), uF s 2, fun w h => G_Vp_as_0 (fun w1 e1 => ?_), fun w h => G_Md_as_0 (fun w1 e1 => ?_)⟩
        · have h1 : sC (uF s 0) w1 := e1 ▸ sC_uF h
          have f1 : fC w w1 := e1 ▸ fC_1
          have h8 := s_n8 h.1
          refine ⟨fun _ => ⟨fun _ => ⟨z_in (by omega) (by decide), fun _ => fun w2 e2 => ?_, fun c => absurd ?_ c⟩, fun c => absurd hr c⟩, fun c => absurd ((pL_C h1).mpr ⟨a, ha, rfl⟩) c⟩
          · exact cF (sC_f h1 e2).1 (fC_tr f1 (sC_f h1 e2).2)
          · have := tC_k (sC_R h1) ha; rw [show w1 1089 (nI a).toNatClampNeg = _ from this]; exact hk
        · have h1 : sM (uF s 0) w1 := e1 ▸ sM_uF h
          have f1 : fM w w1 := e1 ▸ fM_2
          have h8 := s_n8 h.1
          refine ⟨fun _ => ⟨fun _ => ⟨z_in (by omega) (by decide), fun _ => fun w2 e2 => ?_, fun c => absurd ?_ c⟩, fun c => absurd hr c⟩, fun c => absurd ((pL_M h1).mpr ⟨a, ha, rfl⟩) c⟩
          · exact mF (sM_f h1 e2).1 (fM_tr f1 (sM_f h1 e2).2)
          · have := tM_k (sM_S h1) ha; rw [this]; exact hk
      · refine ⟨1, uF s 0, fun w h => G_Vp_as_0 (fun w1 e1 => ?_), fun w h => G_Md_as_0 (fun w1 e1 => ?_)⟩
        · have h1 : sC (uF s 0) w1 := e1 ▸ sC_uF h
          have f1 : fC w w1 := e1 ▸ fC_1
          have h8 := s_n8 h.1
          refine ⟨fun _ => ⟨fun _ => ⟨z_in (by omega) (by decide), fun c => absurd ?_ hk, fun _ => cF h1 f1⟩, fun c => absurd hr c⟩, fun c => absurd ((pL_C h1).mpr ⟨a, ha, rfl⟩) c⟩
          have := tC_k (sC_R h1) ha; rw [show w1 1089 (nI a).toNatClampNeg = _ from this] at c; exact c
        · have h1 : sM (uF s 0) w1 := e1 ▸ sM_uF h
          have f1 : fM w w1 := e1 ▸ fM_2
          have h8 := s_n8 h.1
          refine ⟨fun _ => ⟨fun _ => ⟨z_in (by omega) (by decide), fun c => absurd ?_ hk, fun _ => mF h1 f1⟩, fun c => absurd hr c⟩, fun c => absurd ((pL_M h1).mpr ⟨a, ha, rfl⟩) c⟩
          have := tM_k (sM_S h1) ha; rw [this] at c; exact c
    · exact ⟨(-2), uF s 0, fun w h => G_Vp_as_0 (fun w1 e1 => ⟨fun _ => ⟨fun c => absurd c hr, fun _ => cF (e1 ▸ sC_uF h) (e1 ▸ fC_1)⟩, fun c => absurd ((pL_C (s := uF s 0) (e1 ▸ sC_uF h)).mpr ⟨a, ha, rfl⟩) c⟩), fun w h => G_Md_as_0 (fun w1 e1 => ⟨fun _ => ⟨fun c => absurd c hr, fun _ => mF (e1 ▸ sM_uF h) (e1 ▸ fM_2)⟩, fun c => absurd ((pL_M (s := uF s 0) (e1 ▸ sM_uF h)).mpr ⟨a, ha, rfl⟩) c⟩)⟩
  · exact ⟨(-1), uF s 0, fun w h => G_Vp_as_0 (fun w1 e1 => ⟨fun c => absurd ((pL_C (s := uF s 0) (e1 ▸ sC_uF h)).mp c) hp, fun _ => cF (e1 ▸ sC_uF h) (e1 ▸ fC_1)⟩), fun w h => G_Md_as_0 (fun w1 e1 => ⟨fun c => absurd ((pL_M (s := uF s 0) (e1 ▸ sM_uF h)).mp c) hp, fun _ => mF (e1 ▸ sM_uF h) (e1 ▸ fM_2)⟩)⟩
/-! label, tell -/
theorem sC_tr {s : xS} {w w1 : xWd} {v : Int32} (h : sC s w) (e : w1 = x_set w 1 7 (31 * w 1 7 + v)) : sC (uTr s (31 * s_t s + v)) w1 ∧ fC w w1 := by
  rw [h.2.2.2.2.1] at e
  exact ⟨e ▸ sC_uTr h, e ▸ fC_1⟩
theorem sM_tr {s : xS} {w w1 : xWd} {v : Int32} (h : sM s w) (e : w1 = x_set w 2 1 (31 * w 2 1 + v)) : sM (uTr s (31 * s_t s + v)) w1 ∧ fM w w1 := by
  rw [h.2.2.2.2.1] at e
  exact ⟨e ▸ sM_uTr h, e ▸ fM_2⟩
theorem G_Vp_label_0 {d : Nat} {x1 : Int32} {w : xWd} {Q : xMV → xWd → Prop} (h : ((p_lt x1 (w 34 8) → (vp_in x1 8 ∧ ((w 1089 x1.toNatClampNeg = 2 → (∀ w1 : xWd, w1 = x_set w 1 7 (31 * w 1 7 + 5) → Q (xI 90) w1)) ∧ (¬ (w 1089 x1.toNatClampNeg = 2) → (∀ w2 : xWd, w2 = x_set w 1 7 (31 * w 1 7 + 4) → Q (xI x1) w2))))) ∧ (¬ (p_lt x1 (w 34 8)) → Q (xI (-1)) w))) : xWp (d + 1) m_Vp_label 0 [xA 6 1, xI x1] [] w Q := by
  refine x_goN 3 (pc' := 5) (ls' := [xA 6 1, xI x1]) (st' := [xI x1, xA 5 34]) (w' := w) rfl ?_
  refine x_call (y := m_Tr_isLine) (as := [xA 5 34, xI x1]) (rst := []) rfl [xA 5 34, xI x1] rfl ?_
  refine S_Tr_isLine (fun c1 => ?_) (fun c1 => ?_)
  · skip
    refine x_goN 1 (pc' := if (1 : Int32) = (0 : Int32) then 11 else 13) (ls' := [xA 6 1, xI x1]) (st' := []) (w' := w) rfl ?_
    refine x_brF (by decide) ?_
    refine x_goN 4 (pc' := 21) (ls' := [xA 6 1, xI x1]) (st' := [xI x1, xA 108 1089]) (w' := w) rfl ?_
    refine x_ob (P := vp_in x1 8) (pc' := 22) (ls' := [xA 6 1, xI x1]) (st' := [xI (w 1089 x1.toNatClampNeg)]) (w' := w) rfl (h.1 c1).1 ?_
    refine x_goN 2 (pc' := if w 1089 x1.toNatClampNeg = 2 then 26 else 34) (ls' := [xA 6 1, xI x1]) (st' := []) (w' := w) rfl ?_
    refine x_br (fun c2 => ?_) (fun c2 => ?_)
    · skip
      refine x_goN 2 (pc' := 28) (ls' := [xA 6 1, xI x1]) (st' := [xI 5, xA 6 1]) (w' := w) rfl ?_
      refine x_call (y := m_Vp_leaveInTrace) (as := [xA 6 1, xI 5]) (rst := []) rfl [xA 6 1, xI 5] rfl ?_
      refine S_Vp_leaveInTrace (fun w1 ew1 => ?_)
      refine x_goN 1 (pc' := 33) (ls' := [xA 6 1, xI x1]) (st' := [xI 90]) (w' := w1) rfl ?_
      exact x_ret (P := True) rfl trivial (((h.1 c1).2.1 c2) w1 ew1)
    · skip
      refine x_goN 2 (pc' := 36) (ls' := [xA 6 1, xI x1]) (st' := [xI 4, xA 6 1]) (w' := w) rfl ?_
      refine x_call (y := m_Vp_leaveInTrace) (as := [xA 6 1, xI 4]) (rst := []) rfl [xA 6 1, xI 4] rfl ?_
      refine S_Vp_leaveInTrace (fun w2 ew2 => ?_)
      refine x_goN 1 (pc' := 40) (ls' := [xA 6 1, xI x1]) (st' := [xI x1]) (w' := w2) rfl ?_
      exact x_ret (P := True) rfl trivial (((h.1 c1).2.2 c2) w2 ew2)
  · skip
    refine x_goN 1 (pc' := if (0 : Int32) = (0 : Int32) then 11 else 13) (ls' := [xA 6 1, xI x1]) (st' := []) (w' := w) rfl ?_
    refine x_brT (by decide) ?_
    refine x_goN 1 (pc' := 12) (ls' := [xA 6 1, xI x1]) (st' := [xI (-1)]) (w' := w) rfl ?_
    exact x_ret (P := True) rfl trivial (h.2 c1)
theorem G_Md_label_0 {d : Nat} {x1 : Int32} {w : xWd} {Q : xMV → xWd → Prop} (h : ((p_lt x1 (w 2 5) → (vp_in x1 8 ∧ ((w 71 x1.toNatClampNeg = 2 → (∀ w1 : xWd, w1 = x_set w 2 1 (31 * w 2 1 + 5) → (vp_in x1 8 ∧ ((w1 71 x1.toNatClampNeg = 2 → Q (xI 90) w1) ∧ (¬ (w1 71 x1.toNatClampNeg = 2) → Q (xI x1) w1))))) ∧ (¬ (w 71 x1.toNatClampNeg = 2) → (∀ w2 : xWd, w2 = x_set w 2 1 (31 * w 2 1 + 4) → (vp_in x1 8 ∧ ((w2 71 x1.toNatClampNeg = 2 → Q (xI 90) w2) ∧ (¬ (w2 71 x1.toNatClampNeg = 2) → Q (xI x1) w2)))))))) ∧ (¬ (p_lt x1 (w 2 5)) → Q (xI (-1)) w))) : xWp (d + 1) m_Md_label 0 [xA 7 2, xI x1] [] w Q := by
  refine x_goN 2 (pc' := 2) (ls' := [xA 7 2, xI x1]) (st' := [xI x1, xA 7 2]) (w' := w) rfl ?_
  refine x_call (y := m_Md_isLine) (as := [xA 7 2, xI x1]) (rst := []) rfl [xA 7 2, xI x1] rfl ?_
  refine S_Md_isLine (fun c1 => ?_) (fun c1 => ?_)
  · skip
    refine x_goN 1 (pc' := if (1 : Int32) = (0 : Int32) then 8 else 10) (ls' := [xA 7 2, xI x1]) (st' := []) (w' := w) rfl ?_
    refine x_brF (by decide) ?_
    refine x_goN 4 (pc' := 16) (ls' := [xA 7 2, xI x1]) (st' := [xI x1, xA 108 71, xA 7 2]) (w' := w) rfl ?_
    refine x_ob (P := vp_in x1 8) (pc' := 17) (ls' := [xA 7 2, xI x1]) (st' := [xI (w 71 x1.toNatClampNeg), xA 7 2]) (w' := w) rfl (h.1 c1).1 ?_
    refine x_goN 2 (pc' := if w 71 x1.toNatClampNeg = 2 then 21 else 25) (ls' := [xA 7 2, xI x1]) (st' := [xA 7 2]) (w' := w) rfl ?_
    refine x_br (fun c2 => ?_) (fun c2 => ?_)
    · skip
      refine x_goN 2 (pc' := 26) (ls' := [xA 7 2, xI x1]) (st' := [xI 5, xA 7 2]) (w' := w) rfl ?_
      refine x_call (y := m_Md_begins) (as := [xA 7 2, xI 5]) (rst := []) rfl [xA 7 2, xI 5] rfl ?_
      refine S_Md_begins (fun w1 ew1 => ?_)
      refine x_goN 3 (pc' := 34) (ls' := [xA 7 2, xI x1]) (st' := [xI x1, xA 108 71]) (w' := w1) rfl ?_
      refine x_ob (P := vp_in x1 8) (pc' := 35) (ls' := [xA 7 2, xI x1]) (st' := [xI (w1 71 x1.toNatClampNeg)]) (w' := w1) rfl (((h.1 c1).2.1 c2) w1 ew1).1 ?_
      refine x_goN 2 (pc' := if w1 71 x1.toNatClampNeg = 2 then 39 else 44) (ls' := [xA 7 2, xI x1]) (st' := []) (w' := w1) rfl ?_
      refine x_br (fun c3 => ?_) (fun c3 => ?_)
      · skip
        refine x_goN 2 (pc' := 45) (ls' := [xA 7 2, xI x1]) (st' := [xI 90]) (w' := w1) rfl ?_
        exact x_ret (P := True) rfl trivial ((((h.1 c1).2.1 c2) w1 ew1).2.1 c3)
      · skip
        refine x_goN 1 (pc' := 45) (ls' := [xA 7 2, xI x1]) (st' := [xI x1]) (w' := w1) rfl ?_
        exact x_ret (P := True) rfl trivial ((((h.1 c1).2.1 c2) w1 ew1).2.2 c3)
    · skip
      refine x_goN 1 (pc' := 26) (ls' := [xA 7 2, xI x1]) (st' := [xI 4, xA 7 2]) (w' := w) rfl ?_
      refine x_call (y := m_Md_begins) (as := [xA 7 2, xI 4]) (rst := []) rfl [xA 7 2, xI 4] rfl ?_
      refine S_Md_begins (fun w2 ew2 => ?_)
      refine x_goN 3 (pc' := 34) (ls' := [xA 7 2, xI x1]) (st' := [xI x1, xA 108 71]) (w' := w2) rfl ?_
      refine x_ob (P := vp_in x1 8) (pc' := 35) (ls' := [xA 7 2, xI x1]) (st' := [xI (w2 71 x1.toNatClampNeg)]) (w' := w2) rfl (((h.1 c1).2.2 c2) w2 ew2).1 ?_
      refine x_goN 2 (pc' := if w2 71 x1.toNatClampNeg = 2 then 39 else 44) (ls' := [xA 7 2, xI x1]) (st' := []) (w' := w2) rfl ?_
      refine x_br (fun c4 => ?_) (fun c4 => ?_)
      · skip
        refine x_goN 2 (pc' := 45) (ls' := [xA 7 2, xI x1]) (st' := [xI 90]) (w' := w2) rfl ?_
        exact x_ret (P := True) rfl trivial ((((h.1 c1).2.2 c2) w2 ew2).2.1 c4)
      · skip
        refine x_goN 1 (pc' := 45) (ls' := [xA 7 2, xI x1]) (st' := [xI x1]) (w' := w2) rfl ?_
        exact x_ret (P := True) rfl trivial ((((h.1 c1).2.2 c2) w2 ew2).2.2 c4)
  · skip
    refine x_goN 1 (pc' := if (0 : Int32) = (0 : Int32) then 8 else 10) (ls' := [xA 7 2, xI x1]) (st' := []) (w' := w) rfl ?_
    refine x_brT (by decide) ?_
    refine x_goN 1 (pc' := 9) (ls' := [xA 7 2, xI x1]) (st' := [xI (-1)]) (w' := w) rfl ?_
    exact x_ret (P := True) rfl trivial (h.2 c1)
theorem O_label (s : xS) (x : Int32) : oB m_Vp_label [xA 6 1, xI x] m_Md_label [xA 7 2, xI x] s := by
  by_cases hp : pL (s_T s) x
  · obtain ⟨a, ha, rfl⟩ := hp
    by_cases hk : nI (tk (s_T s) a) = 2
    · refine ⟨90, uTr s (31 * s_t s + 5), fun w h => ?_, fun w h => ?_⟩
      · have h8 := s_n8 h.1
        have hk' : w 1089 (nI a).toNatClampNeg = 2 := (tC_k (sC_R h) ha).trans hk
        exact G_Vp_label_0 ⟨fun _ => ⟨z_in (by omega) (by decide), fun _ w1 e1 => cF (sC_tr h e1).1 (sC_tr h e1).2, fun c => absurd hk' c⟩, fun c => absurd (tR_lt (sC_R h) ha) c⟩
      · have h8 := s_n8 h.1
        have hk' : w 71 (nI a).toNatClampNeg = 2 := (tM_k (sM_S h) ha).trans hk
        refine G_Md_label_0 ⟨fun _ => ⟨z_in (by omega) (by decide), fun _ w1 e1 => ⟨z_in (by omega) (by decide), fun _ => mF (sM_tr h e1).1 (sM_tr h e1).2, fun c => absurd ?_ c⟩, fun c => absurd hk' c⟩, fun c => absurd (tS_lt (sM_S h) ha) c⟩
        rw [e1, x_set_o (by decide)]; exact hk'
    · refine ⟨(nI a), uTr s (31 * s_t s + 4), fun w h => ?_, fun w h => ?_⟩
      · have h8 := s_n8 h.1
        have hk' : ¬ w 1089 (nI a).toNatClampNeg = 2 := fun c => hk ((tC_k (sC_R h) ha).symm.trans c)
        exact G_Vp_label_0 ⟨fun _ => ⟨z_in (by omega) (by decide), fun c => absurd c hk', fun _ w1 e1 => cF (sC_tr h e1).1 (sC_tr h e1).2⟩, fun c => absurd (tR_lt (sC_R h) ha) c⟩
      · have h8 := s_n8 h.1
        have hk' : ¬ w 71 (nI a).toNatClampNeg = 2 := fun c => hk ((tM_k (sM_S h) ha).symm.trans c)
        refine G_Md_label_0 ⟨fun _ => ⟨z_in (by omega) (by decide), fun c => absurd c hk', fun _ w1 e1 => ⟨z_in (by omega) (by decide), fun c => absurd ?_ hk', fun _ => mF (sM_tr h e1).1 (sM_tr h e1).2⟩⟩, fun c => absurd (tS_lt (sM_S h) ha) c⟩
        rw [e1, x_set_o (by decide)] at c; exact c
  · exact ⟨(-1), s, fun w h => G_Vp_label_0 ⟨fun c => absurd ((pL_C h).mp c) hp, fun _ => cE h⟩, fun w h => G_Md_label_0 ⟨fun c => absurd ((pL_M h).mp c) hp, fun _ => mE h⟩⟩
theorem G_Vp_plainTelling_0 {d : Nat} {x1 : Int32} {w : xWd} {Q : xMV → xWd → Prop} (h : (∀ w1 : xWd, w1 = x_set w 1 7 (31 * w 1 7 + 1) → xWp (d + 2) m_Tr_howManyUse 0 [xA 5 34, xI x1] [] w1 (fun a w' => xWp (d + 3) m_Vp_plainTelling 13 [xA 6 1, xI x1] (x_pu a []) w' Q))) : xWp (d + 3) m_Vp_plainTelling 0 [xA 6 1, xI x1] [] w Q := by
  refine x_goN 2 (pc' := 2) (ls' := [xA 6 1, xI x1]) (st' := [xI 1, xA 6 1]) (w' := w) rfl ?_
  refine x_call (y := m_Vp_leaveInTrace) (as := [xA 6 1, xI 1]) (rst := []) rfl [xA 6 1, xI 1] rfl ?_
  refine S_Vp_leaveInTrace (fun w1 ew1 => ?_)
  refine x_goN 3 (pc' := 10) (ls' := [xA 6 1, xI x1]) (st' := [xI x1, xA 5 34]) (w' := w1) rfl ?_
  refine x_call (y := m_Tr_howManyUse) (as := [xA 5 34, xI x1]) (rst := []) rfl [xA 5 34, xI x1] rfl ?_
  exact (h w1 ew1)
theorem G_Vp_plainTelling_13 {d : Nat} {x1 : Int32} {s0 : Int32} {w : xWd} {Q : xMV → xWd → Prop} (h : Q (xI s0) w) : xWp (d + 3) m_Vp_plainTelling 13 [xA 6 1, xI x1] [xI s0] w Q := by
  exact x_ret (P := True) rfl trivial h
theorem G_Vp_bulkyTelling_0 {d : Nat} {x1 : Int32} {w : xWd} {Q : xMV → xWd → Prop} (h : (∀ w1 : xWd, w1 = x_set w 1 7 (31 * w 1 7 + 2) → xWp (d + 3) m_Vp_plainTelling 0 [xA 6 1, xI x1] [] w1 (fun a w' => xWp (d + 4) m_Vp_bulkyTelling 10 [xA 6 1, xI x1] (x_pu a []) w' Q))) : xWp (d + 4) m_Vp_bulkyTelling 0 [xA 6 1, xI x1] [] w Q := by
  refine x_goN 2 (pc' := 2) (ls' := [xA 6 1, xI x1]) (st' := [xI 2, xA 6 1]) (w' := w) rfl ?_
  refine x_call (y := m_Vp_leaveInTrace) (as := [xA 6 1, xI 2]) (rst := []) rfl [xA 6 1, xI 2] rfl ?_
  refine S_Vp_leaveInTrace (fun w1 ew1 => ?_)
  refine x_goN 2 (pc' := 7) (ls' := [xA 6 1, xI x1]) (st' := [xI x1, xA 6 1]) (w' := w1) rfl ?_
  refine x_call (y := m_Vp_plainTelling) (as := [xA 6 1, xI x1]) (rst := []) rfl [xA 6 1, xI x1] rfl ?_
  exact (h w1 ew1)
theorem G_Vp_bulkyTelling_10 {d : Nat} {x1 : Int32} {s0 : Int32} {w : xWd} {Q : xMV → xWd → Prop} (h : Q (xI (s0 + 100)) w) : xWp (d + 4) m_Vp_bulkyTelling 10 [xA 6 1, xI x1] [xI s0] w Q := by
  refine x_goN 2 (pc' := 13) (ls' := [xA 6 1, xI x1]) (st' := [xI (s0 + 100)]) (w' := w) rfl ?_
  exact x_ret (P := True) rfl trivial h
theorem G_Vp_doubleTelling_0 {d : Nat} {x1 : Int32} {w : xWd} {Q : xMV → xWd → Prop} (h : (∀ w1 : xWd, w1 = x_set w 1 7 (31 * w 1 7 + 3) → xWp (d + 4) m_Vp_bulkyTelling 0 [xA 6 1, xI x1] [] w1 (fun a w' => xWp (d + 5) m_Vp_doubleTelling 10 [xA 6 1, xI x1, xU] (x_pu a []) w' Q))) : xWp (d + 5) m_Vp_doubleTelling 0 [xA 6 1, xI x1, xU] [] w Q := by
  refine x_goN 2 (pc' := 2) (ls' := [xA 6 1, xI x1, xU]) (st' := [xI 3, xA 6 1]) (w' := w) rfl ?_
  refine x_call (y := m_Vp_leaveInTrace) (as := [xA 6 1, xI 3]) (rst := []) rfl [xA 6 1, xI 3] rfl ?_
  refine S_Vp_leaveInTrace (fun w1 ew1 => ?_)
  refine x_goN 2 (pc' := 7) (ls' := [xA 6 1, xI x1, xU]) (st' := [xI x1, xA 6 1]) (w' := w1) rfl ?_
  refine x_call (y := m_Vp_bulkyTelling) (as := [xA 6 1, xI x1]) (rst := []) rfl [xA 6 1, xI x1] rfl ?_
  exact (h w1 ew1)
theorem G_Vp_doubleTelling_10 {d : Nat} {x1 : Int32} {s0 : Int32} {w : xWd} {Q : xMV → xWd → Prop} (h : xWp (d + 4) m_Vp_plainTelling 0 [xA 6 1, xI x1] [] w (fun a w' => xWp (d + 5) m_Vp_doubleTelling 17 [xA 6 1, xI x1, xI s0] (x_pu a [xI s0]) w' Q)) : xWp (d + 5) m_Vp_doubleTelling 10 [xA 6 1, xI x1, xU] [xI s0] w Q := by
  refine x_goN 4 (pc' := 14) (ls' := [xA 6 1, xI x1, xI s0]) (st' := [xI x1, xA 6 1, xI s0]) (w' := w) rfl ?_
  refine x_call (y := m_Vp_plainTelling) (as := [xA 6 1, xI x1]) (rst := [xI s0]) rfl [xA 6 1, xI x1] rfl ?_
  exact h
theorem G_Vp_doubleTelling_17 {d : Nat} {x1 : Int32} {x2 : Int32} {s1 : Int32} {s0 : Int32} {w : xWd} {Q : xMV → xWd → Prop} (h : Q (xI (s0 + s1)) w) : xWp (d + 5) m_Vp_doubleTelling 17 [xA 6 1, xI x1, xI x2] [xI s1, xI s0] w Q := by
  refine x_goN 1 (pc' := 18) (ls' := [xA 6 1, xI x1, xI x2]) (st' := [xI (s0 + s1)]) (w' := w) rfl ?_
  exact x_ret (P := True) rfl trivial h
def vTe (s : xS) (a : Nat) : Int32 := nI (z_pc (mUs (s_T s) a))
theorem S_plain {d a : Nat} {s : xS} {w : xWd} {Q : xMV → xWd → Prop} (h : sC s w) (ha : a < 8) (hq : ∀ w', sC (uTr s (31 * s_t s + 1)) w' → fC w w' → Q (xI (vTe s a)) w') : xWp (d + 3) m_Vp_plainTelling 0 [xA 6 1, xI (nI a)] [] w Q :=
  G_Vp_plainTelling_0 (fun w1 e1 => S_Tr_howManyUse (sC_R (sC_tr h e1).1) ha (G_Vp_plainTelling_13 (hq w1 (sC_tr h e1).1 (sC_tr h e1).2)))
theorem S_bulky {d a : Nat} {s : xS} {w : xWd} {Q : xMV → xWd → Prop} (h : sC s w) (ha : a < 8) (hq : ∀ w', sC (uTr s (31 * (31 * s_t s + 2) + 1)) w' → fC w w' → Q (xI (vTe s a + 100)) w') : xWp (d + 4) m_Vp_bulkyTelling 0 [xA 6 1, xI (nI a)] [] w Q :=
  G_Vp_bulkyTelling_0 (fun w1 e1 => S_plain (sC_tr h e1).1 ha (fun w2 h2 f2 => G_Vp_bulkyTelling_10 (hq w2 h2 (fC_tr (sC_tr h e1).2 f2))))
theorem S_double {d a : Nat} {s : xS} {w : xWd} {Q : xMV → xWd → Prop} (h : sC s w) (ha : a < 8) (hq : ∀ w', sC (uTr s (31 * (31 * (31 * (31 * s_t s + 3) + 2) + 1) + 1)) w' → fC w w' → Q (xI (vTe s a + 100 + vTe s a)) w') : xWp (d + 5) m_Vp_doubleTelling 0 [xA 6 1, xI (nI a), xU] [] w Q :=
  G_Vp_doubleTelling_0 (fun w1 e1 => S_bulky (sC_tr h e1).1 ha (fun w2 h2 f2 => G_Vp_doubleTelling_10 (S_plain h2 ha (fun w3 h3 f3 => G_Vp_doubleTelling_17 (hq w3 h3 (fC_tr (fC_tr (sC_tr h e1).2 f2) f3))))))
theorem G_Vp_tell_0 {d : Nat} {x1 : Int32} {w : xWd} {Q : xMV → xWd → Prop} (h : ((p_lt x1 (w 34 8) → (vp_in x1 8 ∧ ((w 1089 x1.toNatClampNeg = 1 → xWp (d + 5) m_Vp_bulkyTelling 0 [xA 6 1, xI x1] [] w (fun a w' => xWp (d + 6) m_Vp_tell 59 [xA 6 1, xI x1] (x_pu a []) w' Q)) ∧ (¬ (w 1089 x1.toNatClampNeg = 1) → ((w 1089 x1.toNatClampNeg = 2 → xWp (d + 5) m_Vp_doubleTelling 0 [xA 6 1, xI x1, xU] [] w (fun a w' => xWp (d + 6) m_Vp_tell 53 [xA 6 1, xI x1] (x_pu a []) w' Q)) ∧ (¬ (w 1089 x1.toNatClampNeg = 2) → xWp (d + 5) m_Vp_plainTelling 0 [xA 6 1, xI x1] [] w (fun a w' => xWp (d + 6) m_Vp_tell 65 [xA 6 1, xI x1] (x_pu a []) w' Q))))))) ∧ (¬ (p_lt x1 (w 34 8)) → Q (xI (-1)) w))) : xWp (d + 6) m_Vp_tell 0 [xA 6 1, xI x1] [] w Q := by
  refine x_goN 3 (pc' := 5) (ls' := [xA 6 1, xI x1]) (st' := [xI x1, xA 5 34]) (w' := w) rfl ?_
  refine x_call (y := m_Tr_isLine) (as := [xA 5 34, xI x1]) (rst := []) rfl [xA 5 34, xI x1] rfl ?_
  refine S_Tr_isLine (fun c1 => ?_) (fun c1 => ?_)
  · skip
    refine x_goN 1 (pc' := if (1 : Int32) = (0 : Int32) then 11 else 13) (ls' := [xA 6 1, xI x1]) (st' := []) (w' := w) rfl ?_
    refine x_brF (by decide) ?_
    refine x_goN 4 (pc' := 21) (ls' := [xA 6 1, xI x1]) (st' := [xI x1, xA 108 1089]) (w' := w) rfl ?_
    refine x_ob (P := vp_in x1 8) (pc' := 22) (ls' := [xA 6 1, xI x1]) (st' := [xI (w 1089 x1.toNatClampNeg)]) (w' := w) rfl (h.1 c1).1 ?_
    refine x_goN 1 (pc' := if w 1089 x1.toNatClampNeg = 1 then 54 else if w 1089 x1.toNatClampNeg = 2 then 48 else 60) (ls' := [xA 6 1, xI x1]) (st' := []) (w' := w) rfl ?_
    refine x_br (fun c2 => ?_) (fun c2 => ?_)
    · skip
      refine x_goN 2 (pc' := 56) (ls' := [xA 6 1, xI x1]) (st' := [xI x1, xA 6 1]) (w' := w) rfl ?_
      refine x_call (y := m_Vp_bulkyTelling) (as := [xA 6 1, xI x1]) (rst := []) rfl [xA 6 1, xI x1] rfl ?_
      exact ((h.1 c1).2.1 c2)
    · skip
      refine x_br (fun c3 => ?_) (fun c3 => ?_)
      · skip
        refine x_goN 2 (pc' := 50) (ls' := [xA 6 1, xI x1]) (st' := [xI x1, xA 6 1]) (w' := w) rfl ?_
        refine x_call (y := m_Vp_doubleTelling) (as := [xA 6 1, xI x1]) (rst := []) rfl [xA 6 1, xI x1, xU] rfl ?_
        exact (((h.1 c1).2.2 c2).1 c3)
      · skip
        refine x_goN 2 (pc' := 62) (ls' := [xA 6 1, xI x1]) (st' := [xI x1, xA 6 1]) (w' := w) rfl ?_
        refine x_call (y := m_Vp_plainTelling) (as := [xA 6 1, xI x1]) (rst := []) rfl [xA 6 1, xI x1] rfl ?_
        exact (((h.1 c1).2.2 c2).2 c3)
  · skip
    refine x_goN 1 (pc' := if (0 : Int32) = (0 : Int32) then 11 else 13) (ls' := [xA 6 1, xI x1]) (st' := []) (w' := w) rfl ?_
    refine x_brT (by decide) ?_
    refine x_goN 1 (pc' := 12) (ls' := [xA 6 1, xI x1]) (st' := [xI (-1)]) (w' := w) rfl ?_
    exact x_ret (P := True) rfl trivial (h.2 c1)
theorem G_Vp_tell_53 {d : Nat} {x1 : Int32} {s0 : Int32} {w : xWd} {Q : xMV → xWd → Prop} (h : Q (xI s0) w) : xWp (d + 6) m_Vp_tell 53 [xA 6 1, xI x1] [xI s0] w Q := by
  exact x_ret (P := True) rfl trivial h
theorem G_Vp_tell_59 {d : Nat} {x1 : Int32} {s0 : Int32} {w : xWd} {Q : xMV → xWd → Prop} (h : Q (xI s0) w) : xWp (d + 6) m_Vp_tell 59 [xA 6 1, xI x1] [xI s0] w Q := by
  exact x_ret (P := True) rfl trivial h
theorem G_Vp_tell_65 {d : Nat} {x1 : Int32} {s0 : Int32} {w : xWd} {Q : xMV → xWd → Prop} (h : Q (xI s0) w) : xWp (d + 6) m_Vp_tell 65 [xA 6 1, xI x1] [xI s0] w Q := by
  exact x_ret (P := True) rfl trivial h
theorem G_Md_tell_0 {d : Nat} {x1 : Int32} {w : xWd} {Q : xMV → xWd → Prop} (h : ((p_lt x1 (w 2 5) → xWp (d + 1) m_Md_usersOf 0 [xA 7 2, xI x1, xU, xU] [] w (fun a w' => xWp (d + 2) m_Md_tell 15 [xA 7 2, xI x1, xU] (x_pu a []) w' Q)) ∧ (¬ (p_lt x1 (w 2 5)) → Q (xI (-1)) w))) : xWp (d + 2) m_Md_tell 0 [xA 7 2, xI x1, xU] [] w Q := by
  refine x_goN 2 (pc' := 2) (ls' := [xA 7 2, xI x1, xU]) (st' := [xI x1, xA 7 2]) (w' := w) rfl ?_
  refine x_call (y := m_Md_isLine) (as := [xA 7 2, xI x1]) (rst := []) rfl [xA 7 2, xI x1] rfl ?_
  refine S_Md_isLine (fun c1 => ?_) (fun c1 => ?_)
  · skip
    refine x_goN 1 (pc' := if (1 : Int32) = (0 : Int32) then 8 else 10) (ls' := [xA 7 2, xI x1, xU]) (st' := []) (w' := w) rfl ?_
    refine x_brF (by decide) ?_
    refine x_goN 2 (pc' := 12) (ls' := [xA 7 2, xI x1, xU]) (st' := [xI x1, xA 7 2]) (w' := w) rfl ?_
    refine x_call (y := m_Md_usersOf) (as := [xA 7 2, xI x1]) (rst := []) rfl [xA 7 2, xI x1, xU, xU] rfl ?_
    exact (h.1 c1)
  · skip
    refine x_goN 1 (pc' := if (0 : Int32) = (0 : Int32) then 8 else 10) (ls' := [xA 7 2, xI x1, xU]) (st' := []) (w' := w) rfl ?_
    refine x_brT (by decide) ?_
    refine x_goN 1 (pc' := 9) (ls' := [xA 7 2, xI x1, xU]) (st' := [xI (-1)]) (w' := w) rfl ?_
    exact x_ret (P := True) rfl trivial (h.2 c1)
theorem G_Md_tell_15 {d : Nat} {x1 : Int32} {s0 : Int32} {w : xWd} {Q : xMV → xWd → Prop} (h : xWp (d + 1) m_Md_size 0 [xI s0, xU, xU] [] w (fun a w' => xWp (d + 2) m_Md_tell 18 [xA 7 2, xI x1, xU] (x_pu a []) w' Q)) : xWp (d + 2) m_Md_tell 15 [xA 7 2, xI x1, xU] [xI s0] w Q := by
  refine x_call (y := m_Md_size) (as := [xI s0]) (rst := []) rfl [xI s0, xU, xU] rfl ?_
  exact h
theorem G_Md_tell_18 {d : Nat} {x1 : Int32} {s0 : Int32} {w : xWd} {Q : xMV → xWd → Prop} (h : (vp_in x1 8 ∧ ((w 71 x1.toNatClampNeg = 1 → (∀ w1 : xWd, w1 = x_set w 2 1 (31 * w 2 1 + 2) → (∀ w2 : xWd, w2 = x_set w1 2 1 (31 * w1 2 1 + 1) → Q (xI (s0 + 100)) w2))) ∧ (¬ (w 71 x1.toNatClampNeg = 1) → ((w 71 x1.toNatClampNeg = 2 → (∀ w3 : xWd, w3 = x_set w 2 1 (31 * w 2 1 + 3) → (∀ w4 : xWd, w4 = x_set w3 2 1 (31 * w3 2 1 + 2) → (∀ w5 : xWd, w5 = x_set w4 2 1 (31 * w4 2 1 + 1) → (∀ w6 : xWd, w6 = x_set w5 2 1 (31 * w5 2 1 + 1) → Q (xI ((2 * s0) + 100)) w6))))) ∧ (¬ (w 71 x1.toNatClampNeg = 2) → (∀ w7 : xWd, w7 = x_set w 2 1 (31 * w 2 1 + 1) → Q (xI s0) w7))))))) : xWp (d + 2) m_Md_tell 18 [xA 7 2, xI x1, xU] [xI s0] w Q := by
  refine x_goN 4 (pc' := 24) (ls' := [xA 7 2, xI x1, xI s0]) (st' := [xI x1, xA 108 71]) (w' := w) rfl ?_
  refine x_ob (P := vp_in x1 8) (pc' := 25) (ls' := [xA 7 2, xI x1, xI s0]) (st' := [xI (w 71 x1.toNatClampNeg)]) (w' := w) rfl h.1 ?_
  refine x_goN 1 (pc' := if w 71 x1.toNatClampNeg = 1 then 52 else if w 71 x1.toNatClampNeg = 2 then 67 else 94) (ls' := [xA 7 2, xI x1, xI s0]) (st' := []) (w' := w) rfl ?_
  refine x_br (fun c1 => ?_) (fun c1 => ?_)
  · skip
    refine x_goN 2 (pc' := 54) (ls' := [xA 7 2, xI x1, xI s0]) (st' := [xI 2, xA 7 2]) (w' := w) rfl ?_
    refine x_call (y := m_Md_begins) (as := [xA 7 2, xI 2]) (rst := []) rfl [xA 7 2, xI 2] rfl ?_
    refine S_Md_begins (fun w1 ew1 => ?_)
    refine x_goN 2 (pc' := 59) (ls' := [xA 7 2, xI x1, xI s0]) (st' := [xI 1, xA 7 2]) (w' := w1) rfl ?_
    refine x_call (y := m_Md_begins) (as := [xA 7 2, xI 1]) (rst := []) rfl [xA 7 2, xI 1] rfl ?_
    refine S_Md_begins (fun w2 ew2 => ?_)
    refine x_goN 3 (pc' := 66) (ls' := [xA 7 2, xI x1, xI s0]) (st' := [xI (s0 + 100)]) (w' := w2) rfl ?_
    exact x_ret (P := True) rfl trivial (((h.2.1 c1) w1 ew1) w2 ew2)
  · skip
    refine x_br (fun c2 => ?_) (fun c2 => ?_)
    · skip
      refine x_goN 2 (pc' := 69) (ls' := [xA 7 2, xI x1, xI s0]) (st' := [xI 3, xA 7 2]) (w' := w) rfl ?_
      refine x_call (y := m_Md_begins) (as := [xA 7 2, xI 3]) (rst := []) rfl [xA 7 2, xI 3] rfl ?_
      refine S_Md_begins (fun w3 ew3 => ?_)
      refine x_goN 2 (pc' := 74) (ls' := [xA 7 2, xI x1, xI s0]) (st' := [xI 2, xA 7 2]) (w' := w3) rfl ?_
      refine x_call (y := m_Md_begins) (as := [xA 7 2, xI 2]) (rst := []) rfl [xA 7 2, xI 2] rfl ?_
      refine S_Md_begins (fun w4 ew4 => ?_)
      refine x_goN 2 (pc' := 79) (ls' := [xA 7 2, xI x1, xI s0]) (st' := [xI 1, xA 7 2]) (w' := w4) rfl ?_
      refine x_call (y := m_Md_begins) (as := [xA 7 2, xI 1]) (rst := []) rfl [xA 7 2, xI 1] rfl ?_
      refine S_Md_begins (fun w5 ew5 => ?_)
      refine x_goN 2 (pc' := 84) (ls' := [xA 7 2, xI x1, xI s0]) (st' := [xI 1, xA 7 2]) (w' := w5) rfl ?_
      refine x_call (y := m_Md_begins) (as := [xA 7 2, xI 1]) (rst := []) rfl [xA 7 2, xI 1] rfl ?_
      refine S_Md_begins (fun w6 ew6 => ?_)
      refine x_goN 5 (pc' := 93) (ls' := [xA 7 2, xI x1, xI s0]) (st' := [xI ((2 * s0) + 100)]) (w' := w6) rfl ?_
      exact x_ret (P := True) rfl trivial ((((((h.2.2 c1).1 c2) w3 ew3) w4 ew4) w5 ew5) w6 ew6)
    · skip
      refine x_goN 2 (pc' := 96) (ls' := [xA 7 2, xI x1, xI s0]) (st' := [xI 1, xA 7 2]) (w' := w) rfl ?_
      refine x_call (y := m_Md_begins) (as := [xA 7 2, xI 1]) (rst := []) rfl [xA 7 2, xI 1] rfl ?_
      refine S_Md_begins (fun w7 ew7 => ?_)
      refine x_goN 1 (pc' := 100) (ls' := [xA 7 2, xI x1, xI s0]) (st' := [xI s0]) (w' := w7) rfl ?_
      exact x_ret (P := True) rfl trivial (((h.2.2 c1).2 c2) w7 ew7)
theorem z_dbl (x : Int32) : 2 * x + 100 = x + 100 + x := by
  rw [show (2 : Int32) * x = x + x from by rw [show (2 : Int32) = 1 + 1 from rfl, Int32.add_mul, Int32.one_mul], Int32.add_assoc, Int32.add_comm x 100, ← Int32.add_assoc]
  rw [Int32.add_comm x 100]
theorem O_tell (s : xS) (x : Int32) : oB m_Vp_tell [xA 6 1, xI x] m_Md_tell [xA 7 2, xI x, xU] s := by
  by_cases hp : pL (s_T s) x
  · obtain ⟨a, ha, rfl⟩ := hp
    by_cases k1 : nI (tk (s_T s) a) = 1
    · refine ⟨(vTe s a + 100), uTr s (31 * (31 * s_t s + 2) + 1), fun w h => ?_, fun w h => ?_⟩
      · have h8 := s_n8 h.1
        have hk' : w 1089 (nI a).toNatClampNeg = 1 := (tC_k (sC_R h) ha).trans k1
        exact G_Vp_tell_0 ⟨fun _ => ⟨z_in (by omega) (by decide), fun _ => S_bulky h (by omega) (fun w' h' f' => G_Vp_tell_59 (cF h' f')), fun c => absurd hk' c⟩, fun c => absurd (tR_lt (sC_R h) ha) c⟩
      · have h8 := s_n8 h.1
        have hk' : w 71 (nI a).toNatClampNeg = 1 := (tM_k (sM_S h) ha).trans k1
        refine G_Md_tell_0 ⟨fun _ => S_Md_usersOf (sM_S h) (by omega) (G_Md_tell_15 (S_Md_size (mUs_lt (s_n8 h.1) _) (G_Md_tell_18 ⟨z_in (by omega) (by decide), fun _ w1 e1 w2 e2 => ?_, fun c => absurd hk' c⟩))), fun c => absurd (tS_lt (sM_S h) ha) c⟩
        have g1 := sM_tr h e1
        have g2 := sM_tr g1.1 e2
        exact mF g2.1 (fM_tr g1.2 g2.2)
    · by_cases k2 : nI (tk (s_T s) a) = 2
      · refine ⟨(vTe s a + 100 + vTe s a), uTr s (31 * (31 * (31 * (31 * s_t s + 3) + 2) + 1) + 1), fun w h => ?_, fun w h => ?_⟩
        · have h8 := s_n8 h.1
          have hk1 : ¬ w 1089 (nI a).toNatClampNeg = 1 := fun c => k1 ((tC_k (sC_R h) ha).symm.trans c)
          have hk' : w 1089 (nI a).toNatClampNeg = 2 := (tC_k (sC_R h) ha).trans k2
          exact G_Vp_tell_0 ⟨fun _ => ⟨z_in (by omega) (by decide), fun c => absurd c hk1, fun _ => ⟨fun _ => S_double h (by omega) (fun w' h' f' => G_Vp_tell_53 (cF h' f')), fun c => absurd hk' c⟩⟩, fun c => absurd (tR_lt (sC_R h) ha) c⟩
        · have h8 := s_n8 h.1
          have hk1 : ¬ w 71 (nI a).toNatClampNeg = 1 := fun c => k1 ((tM_k (sM_S h) ha).symm.trans c)
          have hk' : w 71 (nI a).toNatClampNeg = 2 := (tM_k (sM_S h) ha).trans k2
          refine G_Md_tell_0 ⟨fun _ => S_Md_usersOf (sM_S h) (by omega) (G_Md_tell_15 (S_Md_size (mUs_lt (s_n8 h.1) _) (G_Md_tell_18 ⟨z_in (by omega) (by decide), fun c => absurd c hk1, fun _ => ⟨fun _ w1 e1 w2 e2 w3 e3 w4 e4 => ?_, fun c => absurd hk' c⟩⟩))), fun c => absurd (tS_lt (sM_S h) ha) c⟩
          have g1 := sM_tr h e1
          have g2 := sM_tr g1.1 e2
          have g3 := sM_tr g2.1 e3
          have g4 := sM_tr g3.1 e4
          exact ⟨congrArg xI (z_dbl _), g4.1, fM_tr (fM_tr (fM_tr g1.2 g2.2) g3.2) g4.2⟩
      · refine ⟨(vTe s a), uTr s (31 * s_t s + 1), fun w h => ?_, fun w h => ?_⟩
        · have h8 := s_n8 h.1
          have hk1 : ¬ w 1089 (nI a).toNatClampNeg = 1 := fun c => k1 ((tC_k (sC_R h) ha).symm.trans c)
          have hk2 : ¬ w 1089 (nI a).toNatClampNeg = 2 := fun c => k2 ((tC_k (sC_R h) ha).symm.trans c)
          exact G_Vp_tell_0 ⟨fun _ => ⟨z_in (by omega) (by decide), fun c => absurd c hk1, fun _ => ⟨fun c => absurd c hk2, fun _ => S_plain h (by omega) (fun w' h' f' => G_Vp_tell_65 (cF h' f'))⟩⟩, fun c => absurd (tR_lt (sC_R h) ha) c⟩
        · have h8 := s_n8 h.1
          have hk1 : ¬ w 71 (nI a).toNatClampNeg = 1 := fun c => k1 ((tM_k (sM_S h) ha).symm.trans c)
          have hk2 : ¬ w 71 (nI a).toNatClampNeg = 2 := fun c => k2 ((tM_k (sM_S h) ha).symm.trans c)
          refine G_Md_tell_0 ⟨fun _ => S_Md_usersOf (sM_S h) (by omega) (G_Md_tell_15 (S_Md_size (mUs_lt (s_n8 h.1) _) (G_Md_tell_18 ⟨z_in (by omega) (by decide), fun c => absurd c hk1, fun _ => ⟨fun c => absurd c hk2, fun _ w1 e1 => ?_⟩⟩))), fun c => absurd (tS_lt (sM_S h) ha) c⟩
          exact mF (sM_tr h e1).1 (sM_tr h e1).2
  · exact ⟨(-1), s, fun w h => G_Vp_tell_0 ⟨fun c => absurd ((pL_C h).mp c) hp, fun _ => cE h⟩, fun w h => G_Md_tell_0 ⟨fun c => absurd ((pL_M h).mp c) hp, fun _ => mE h⟩⟩
/-! readings -/
theorem sC_rd {s : xS} {w w' : xWd} {n : Nat} {v c : Nat → Nat} (h : sC s w) (hok : n ≤ 8 ∧ ∀ q, q < n → v q < tn (s_T s) ∧ c q ≤ 20) (hf : ∀ a, a ≠ 39 → a ≠ 1249 → a ≠ 1250 → w' a = w a) (hr : cRd (uR s n v c) w') : sC (uR s n v c) w' := by
  obtain ⟨h1, h2, h3, h4, h5, h6⟩ := h
  refine ⟨⟨h1.1, h1.2.1, hok.1, hok.2⟩, fun k hk => cSh_fr (h2 k hk) (hf _ (by omega) (by omega) (by omega)) (hf _ (by omega) (by omega) (by omega)), tC_fr h3 (hf _ (by omega) (by omega) (by omega)) (fun i hi => hf _ (by omega) (by omega) (by omega)), hr, ?_, ?_⟩
  · rw [hf 1 (by omega) (by omega) (by omega)]; exact h5
  · rw [hf 1 (by omega) (by omega) (by omega)]; exact h6
theorem sM_rd {s : xS} {w w' : xWd} {n : Nat} {v c : Nat → Nat} (h : sM s w) (hok : n ≤ 8 ∧ ∀ q, q < n → v q < tn (s_T s) ∧ c q ≤ 20) (hf : ∀ a, a ≠ 2 → a ≠ 92 → a ≠ 93 → w' a = w a) (h2' : ∀ j, j ≠ 26 → w' 2 j = w 2 j) (hr : mRd (uR s n v c) w') : sM (uR s n v c) w' := by
  obtain ⟨h1, h2, h3, h4, h5, h6⟩ := h
  refine ⟨⟨h1.1, h1.2.1, hok.1, hok.2⟩, fun k hk => ?_, ?_, hr, by rw [h2' 1 (by omega)]; exact h5, by rw [h2' 0 (by omega)]; exact h6⟩
  · unfold mSh; rw [hf 67 (by omega) (by omega) (by omega), hf 68 (by omega) (by omega) (by omega), hf 69 (by omega) (by omega) (by omega)]; exact h2 k hk
  · unfold tM; rw [h2' 5 (by omega), hf 71 (by omega) (by omega) (by omega), hf 72 (by omega) (by omega) (by omega), hf 73 (by omega) (by omega) (by omega), hf 74 (by omega) (by omega) (by omega)]; exact h3

