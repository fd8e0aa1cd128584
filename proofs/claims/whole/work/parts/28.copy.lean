/-! SHEETS: copy -/
def uCp (s : xS) (a b i j n : Nat) : xS := uSh s b (s_r s b) (s_n s b) (va_cpy (s_c s a) (s_c s b) i j n)
theorem G_Vp_copy_0 {d : Nat} {x1 : Int32} {x2 : Int32} {x3 : Int32} {x4 : Int32} {x5 : Int32} {w : xWd} {Q : xMV → xWd → Prop} (h : (∀ w1 : xWd, w1 = x_set w 1 8 0 → ((p_rg x1 0 3 → ((p_rg x3 0 3 → (vp_in x1 4 ∧ (vp_in x3 4 ∧ ((w1 (32 * 33 + x1.toNatClampNeg + 1) 1 = 0 → (∀ w2 : xWd, w2 = x_set w1 1 8 1 → Q (xI (-11)) w2)) ∧ (¬ (w1 (32 * 33 + x1.toNatClampNeg + 1) 1 = 0) → ((w1 (32 * 33 + x3.toNatClampNeg + 1) 1 = 0 → (∀ w3 : xWd, w3 = x_set w1 1 8 1 → Q (xI (-11)) w3)) ∧ (¬ (w1 (32 * 33 + x3.toNatClampNeg + 1) 1 = 0) → ((w1 (32 * 33 + x1.toNatClampNeg + 1) 2 = w1 (32 * 33 + x3.toNatClampNeg + 1) 2 → ((p_hc (w1 (32 * 33 + x1.toNatClampNeg + 1) 3) x2 x5 → ((p_hc (w1 (32 * 33 + x3.toNatClampNeg + 1) 3) x4 x5 → ((¬ x2 < 0 ∧ ¬ x4 < 0 ∧ ¬ x5 < 0 ∧ x2.toNatClampNeg + x5.toNatClampNeg ≤ 60 ∧ x4.toNatClampNeg + x5.toNatClampNeg ≤ 60) ∧ ∀ w4 : xWd, w4 = x_put w1 (32 * (32 * 33 + x3.toNatClampNeg + 1) + 1) (va_cpy (w1 (32 * (32 * 33 + x1.toNatClampNeg + 1) + 1)) (w1 (32 * (32 * 33 + x3.toNatClampNeg + 1) + 1)) x2.toNatClampNeg x4.toNatClampNeg x5.toNatClampNeg) → Q (xI x5) w4)) ∧ (¬ (p_hc (w1 (32 * 33 + x3.toNatClampNeg + 1) 3) x4 x5) → (∀ w5 : xWd, w5 = x_set w1 1 8 3 → Q (xI (-13)) w5)))) ∧ (¬ (p_hc (w1 (32 * 33 + x1.toNatClampNeg + 1) 3) x2 x5) → (∀ w6 : xWd, w6 = x_set w1 1 8 3 → Q (xI (-13)) w6)))) ∧ (¬ (w1 (32 * 33 + x1.toNatClampNeg + 1) 2 = w1 (32 * 33 + x3.toNatClampNeg + 1) 2) → (∀ w7 : xWd, w7 = x_set w1 1 8 2 → Q (xI (-12)) w7)))))))))) ∧ (¬ (p_rg x3 0 3) → Q (xI (-1)) w1))) ∧ (¬ (p_rg x1 0 3) → Q (xI (-1)) w1)))) : xWp (d + 1) m_Vp_copy 0 [xA 6 1, xI x1, xI x2, xI x3, xI x4, xI x5, xU, xU] [] w Q := by
  refine x_goN 2 (pc' := 2) (ls' := [xA 6 1, xI x1, xI x2, xI x3, xI x4, xI x5, xU, xU]) (st' := [xI 0, xA 6 1]) (w' := w) rfl ?_
  refine x_goW (pc' := 5) (ls' := [xA 6 1, xI x1, xI x2, xI x3, xI x4, xI x5, xU, xU]) (st' := []) (w' := x_set w 1 8 0) rfl (fun w1 ew1 => ?_)
  refine x_goN 1 (pc' := 6) (ls' := [xA 6 1, xI x1, xI x2, xI x3, xI x4, xI x5, xU, xU]) (st' := [xI x1]) (w' := w1) rfl ?_
  refine x_call (y := m_Vp_isSheet) (as := [xI x1]) (rst := []) rfl [xI x1] rfl ?_
  refine S_Vp_isSheet (fun c1 => ?_) (fun c1 => ?_)
  · skip
    refine x_goN 1 (pc' := if (1 : Int32) = (0 : Int32) then 19 else 12) (ls' := [xA 6 1, xI x1, xI x2, xI x3, xI x4, xI x5, xU, xU]) (st' := []) (w' := w1) rfl ?_
    refine x_brF (by decide) ?_
    refine x_goN 1 (pc' := 13) (ls' := [xA 6 1, xI x1, xI x2, xI x3, xI x4, xI x5, xU, xU]) (st' := [xI x3]) (w' := w1) rfl ?_
    refine x_call (y := m_Vp_isSheet) (as := [xI x3]) (rst := []) rfl [xI x3] rfl ?_
    refine S_Vp_isSheet (fun c2 => ?_) (fun c2 => ?_)
    · skip
      refine x_goN 1 (pc' := if (1 : Int32) = (0 : Int32) then 19 else 21) (ls' := [xA 6 1, xI x1, xI x2, xI x3, xI x4, xI x5, xU, xU]) (st' := []) (w' := w1) rfl ?_
      refine x_brF (by decide) ?_
      refine x_goN 3 (pc' := 26) (ls' := [xA 6 1, xI x1, xI x2, xI x3, xI x4, xI x5, xU, xU]) (st' := [xI x1, xA 50 33]) (w' := w1) rfl ?_
      refine x_ob (P := vp_in x1 4) (pc' := 27) (ls' := [xA 6 1, xI x1, xI x2, xI x3, xI x4, xI x5, xU, xU]) (st' := [xA 3 (32 * 33 + x1.toNatClampNeg + 1)]) (w' := w1) rfl (((h w1 ew1).1 c1).1 c2).1 ?_
      refine x_goN 4 (pc' := 34) (ls' := [xA 6 1, xI x1, xI x2, xI x3, xI x4, xI x5, xA 3 (32 * 33 + x1.toNatClampNeg + 1), xU]) (st' := [xI x3, xA 50 33]) (w' := w1) rfl ?_
      refine x_ob (P := vp_in x3 4) (pc' := 35) (ls' := [xA 6 1, xI x1, xI x2, xI x3, xI x4, xI x5, xA 3 (32 * 33 + x1.toNatClampNeg + 1), xU]) (st' := [xA 3 (32 * 33 + x3.toNatClampNeg + 1)]) (w' := w1) rfl (((h w1 ew1).1 c1).1 c2).2.1 ?_
      refine x_goN 4 (pc' := if w1 (32 * 33 + x1.toNatClampNeg + 1) 1 = 0 then 53 else 45) (ls' := [xA 6 1, xI x1, xI x2, xI x3, xI x4, xI x5, xA 3 (32 * 33 + x1.toNatClampNeg + 1), xA 3 (32 * 33 + x3.toNatClampNeg + 1)]) (st' := []) (w' := w1) rfl ?_
      refine x_br (fun c3 => ?_) (fun c3 => ?_)
      · skip
        refine x_goN 2 (pc' := 55) (ls' := [xA 6 1, xI x1, xI x2, xI x3, xI x4, xI x5, xA 3 (32 * 33 + x1.toNatClampNeg + 1), xA 3 (32 * 33 + x3.toNatClampNeg + 1)]) (st' := [xI 1, xA 6 1]) (w' := w1) rfl ?_
        refine x_call (y := m_Vp_faulty) (as := [xA 6 1, xI 1]) (rst := []) rfl [xA 6 1, xI 1] rfl ?_
        refine S_Vp_faulty (fun w2 ew2 => ?_)
        exact x_ret (P := True) rfl trivial (((((h w1 ew1).1 c1).1 c2).2.2.1 c3) w2 ew2)
      · skip
        refine x_goN 3 (pc' := if w1 (32 * 33 + x3.toNatClampNeg + 1) 1 = 0 then 53 else 59) (ls' := [xA 6 1, xI x1, xI x2, xI x3, xI x4, xI x5, xA 3 (32 * 33 + x1.toNatClampNeg + 1), xA 3 (32 * 33 + x3.toNatClampNeg + 1)]) (st' := []) (w' := w1) rfl ?_
        refine x_br (fun c4 => ?_) (fun c4 => ?_)
        · skip
          refine x_goN 2 (pc' := 55) (ls' := [xA 6 1, xI x1, xI x2, xI x3, xI x4, xI x5, xA 3 (32 * 33 + x1.toNatClampNeg + 1), xA 3 (32 * 33 + x3.toNatClampNeg + 1)]) (st' := [xI 1, xA 6 1]) (w' := w1) rfl ?_
          refine x_call (y := m_Vp_faulty) (as := [xA 6 1, xI 1]) (rst := []) rfl [xA 6 1, xI 1] rfl ?_
          refine S_Vp_faulty (fun w3 ew3 => ?_)
          exact x_ret (P := True) rfl trivial ((((((h w1 ew1).1 c1).1 c2).2.2.2 c3).1 c4) w3 ew3)
        · skip
          refine x_goN 5 (pc' := if w1 (32 * 33 + x1.toNatClampNeg + 1) 2 = w1 (32 * 33 + x3.toNatClampNeg + 1) 2 then 78 else 72) (ls' := [xA 6 1, xI x1, xI x2, xI x3, xI x4, xI x5, xA 3 (32 * 33 + x1.toNatClampNeg + 1), xA 3 (32 * 33 + x3.toNatClampNeg + 1)]) (st' := []) (w' := w1) rfl ?_
          refine x_br (fun c5 => ?_) (fun c5 => ?_)
          · skip
            refine x_goN 3 (pc' := 83) (ls' := [xA 6 1, xI x1, xI x2, xI x3, xI x4, xI x5, xA 3 (32 * 33 + x1.toNatClampNeg + 1), xA 3 (32 * 33 + x3.toNatClampNeg + 1)]) (st' := [xI x5, xI x2, xA 3 (32 * 33 + x1.toNatClampNeg + 1)]) (w' := w1) rfl ?_
            refine x_call (y := m_Sh_hasCells) (as := [xA 3 (32 * 33 + x1.toNatClampNeg + 1), xI x2, xI x5]) (rst := []) rfl [xA 3 (32 * 33 + x1.toNatClampNeg + 1), xI x2, xI x5] rfl ?_
            refine S_Sh_hasCells (fun c6 => ?_) (fun c6 => ?_)
            · skip
              refine x_goN 1 (pc' := if (1 : Int32) = (0 : Int32) then 101 else 89) (ls' := [xA 6 1, xI x1, xI x2, xI x3, xI x4, xI x5, xA 3 (32 * 33 + x1.toNatClampNeg + 1), xA 3 (32 * 33 + x3.toNatClampNeg + 1)]) (st' := []) (w' := w1) rfl ?_
              refine x_brF (by decide) ?_
              refine x_goN 3 (pc' := 95) (ls' := [xA 6 1, xI x1, xI x2, xI x3, xI x4, xI x5, xA 3 (32 * 33 + x1.toNatClampNeg + 1), xA 3 (32 * 33 + x3.toNatClampNeg + 1)]) (st' := [xI x5, xI x4, xA 3 (32 * 33 + x3.toNatClampNeg + 1)]) (w' := w1) rfl ?_
              refine x_call (y := m_Sh_hasCells) (as := [xA 3 (32 * 33 + x3.toNatClampNeg + 1), xI x4, xI x5]) (rst := []) rfl [xA 3 (32 * 33 + x3.toNatClampNeg + 1), xI x4, xI x5] rfl ?_
              refine S_Sh_hasCells (fun c7 => ?_) (fun c7 => ?_)
              · skip
                refine x_goN 1 (pc' := if (1 : Int32) = (0 : Int32) then 101 else 107) (ls' := [xA 6 1, xI x1, xI x2, xI x3, xI x4, xI x5, xA 3 (32 * 33 + x1.toNatClampNeg + 1), xA 3 (32 * 33 + x3.toNatClampNeg + 1)]) (st' := []) (w' := w1) rfl ?_
                refine x_brF (by decide) ?_
                refine x_goN 7 (pc' := 122) (ls' := [xA 6 1, xI x1, xI x2, xI x3, xI x4, xI x5, xA 3 (32 * 33 + x1.toNatClampNeg + 1), xA 3 (32 * 33 + x3.toNatClampNeg + 1)]) (st' := [xI x5, xI x4, xA 160 (32 * (32 * 33 + x3.toNatClampNeg + 1) + 1), xI x2, xA 160 (32 * (32 * 33 + x1.toNatClampNeg + 1) + 1)]) (w' := w1) rfl ?_
                refine x_obW (P := 1 ≤ (d + 1) ∧ 100 ≤ 160 ∧ 100 ≤ 160 ∧ ¬ x2 < 0 ∧ ¬ x4 < 0 ∧ ¬ x5 < 0 ∧ x2.toNatClampNeg + x5.toNatClampNeg ≤ 60 ∧ x4.toNatClampNeg + x5.toNatClampNeg ≤ 60) (pc' := 125) (ls' := [xA 6 1, xI x1, xI x2, xI x3, xI x4, xI x5, xA 3 (32 * 33 + x1.toNatClampNeg + 1), xA 3 (32 * 33 + x3.toNatClampNeg + 1)]) (st' := []) (w' := x_put w1 (32 * (32 * 33 + x3.toNatClampNeg + 1) + 1) (va_cpy (w1 (32 * (32 * 33 + x1.toNatClampNeg + 1) + 1)) (w1 (32 * (32 * 33 + x3.toNatClampNeg + 1) + 1)) x2.toNatClampNeg x4.toNatClampNeg x5.toNatClampNeg)) rfl ⟨Nat.succ_le_succ (Nat.zero_le _), by decide, by decide, ((((((((h w1 ew1).1 c1).1 c2).2.2.2 c3).2 c4).1 c5).1 c6).1 c7).1⟩ (fun w4 ew4 => ?_)
                refine x_goN 1 (pc' := 127) (ls' := [xA 6 1, xI x1, xI x2, xI x3, xI x4, xI x5, xA 3 (32 * 33 + x1.toNatClampNeg + 1), xA 3 (32 * 33 + x3.toNatClampNeg + 1)]) (st' := [xI x5]) (w' := w4) rfl ?_
                exact x_ret (P := True) rfl trivial (((((((((h w1 ew1).1 c1).1 c2).2.2.2 c3).2 c4).1 c5).1 c6).1 c7).2 w4 ew4)
              · skip
                refine x_goN 1 (pc' := if (0 : Int32) = (0 : Int32) then 101 else 107) (ls' := [xA 6 1, xI x1, xI x2, xI x3, xI x4, xI x5, xA 3 (32 * 33 + x1.toNatClampNeg + 1), xA 3 (32 * 33 + x3.toNatClampNeg + 1)]) (st' := []) (w' := w1) rfl ?_
                refine x_brT (by decide) ?_
                refine x_goN 2 (pc' := 103) (ls' := [xA 6 1, xI x1, xI x2, xI x3, xI x4, xI x5, xA 3 (32 * 33 + x1.toNatClampNeg + 1), xA 3 (32 * 33 + x3.toNatClampNeg + 1)]) (st' := [xI 3, xA 6 1]) (w' := w1) rfl ?_
                refine x_call (y := m_Vp_faulty) (as := [xA 6 1, xI 3]) (rst := []) rfl [xA 6 1, xI 3] rfl ?_
                refine S_Vp_faulty (fun w5 ew5 => ?_)
                exact x_ret (P := True) rfl trivial (((((((((h w1 ew1).1 c1).1 c2).2.2.2 c3).2 c4).1 c5).1 c6).2 c7) w5 ew5)
            · skip
              refine x_goN 1 (pc' := if (0 : Int32) = (0 : Int32) then 101 else 89) (ls' := [xA 6 1, xI x1, xI x2, xI x3, xI x4, xI x5, xA 3 (32 * 33 + x1.toNatClampNeg + 1), xA 3 (32 * 33 + x3.toNatClampNeg + 1)]) (st' := []) (w' := w1) rfl ?_
              refine x_brT (by decide) ?_
              refine x_goN 2 (pc' := 103) (ls' := [xA 6 1, xI x1, xI x2, xI x3, xI x4, xI x5, xA 3 (32 * 33 + x1.toNatClampNeg + 1), xA 3 (32 * 33 + x3.toNatClampNeg + 1)]) (st' := [xI 3, xA 6 1]) (w' := w1) rfl ?_
              refine x_call (y := m_Vp_faulty) (as := [xA 6 1, xI 3]) (rst := []) rfl [xA 6 1, xI 3] rfl ?_
              refine S_Vp_faulty (fun w6 ew6 => ?_)
              exact x_ret (P := True) rfl trivial ((((((((h w1 ew1).1 c1).1 c2).2.2.2 c3).2 c4).1 c5).2 c6) w6 ew6)
          · skip
            refine x_goN 2 (pc' := 74) (ls' := [xA 6 1, xI x1, xI x2, xI x3, xI x4, xI x5, xA 3 (32 * 33 + x1.toNatClampNeg + 1), xA 3 (32 * 33 + x3.toNatClampNeg + 1)]) (st' := [xI 2, xA 6 1]) (w' := w1) rfl ?_
            refine x_call (y := m_Vp_faulty) (as := [xA 6 1, xI 2]) (rst := []) rfl [xA 6 1, xI 2] rfl ?_
            refine S_Vp_faulty (fun w7 ew7 => ?_)
            exact x_ret (P := True) rfl trivial (((((((h w1 ew1).1 c1).1 c2).2.2.2 c3).2 c4).2 c5) w7 ew7)
    · skip
      refine x_goN 1 (pc' := if (0 : Int32) = (0 : Int32) then 19 else 21) (ls' := [xA 6 1, xI x1, xI x2, xI x3, xI x4, xI x5, xU, xU]) (st' := []) (w' := w1) rfl ?_
      refine x_brT (by decide) ?_
      refine x_goN 1 (pc' := 20) (ls' := [xA 6 1, xI x1, xI x2, xI x3, xI x4, xI x5, xU, xU]) (st' := [xI (-1)]) (w' := w1) rfl ?_
      exact x_ret (P := True) rfl trivial (((h w1 ew1).1 c1).2 c2)
  · skip
    refine x_goN 1 (pc' := if (0 : Int32) = (0 : Int32) then 19 else 12) (ls' := [xA 6 1, xI x1, xI x2, xI x3, xI x4, xI x5, xU, xU]) (st' := []) (w' := w1) rfl ?_
    refine x_brT (by decide) ?_
    refine x_goN 1 (pc' := 20) (ls' := [xA 6 1, xI x1, xI x2, xI x3, xI x4, xI x5, xU, xU]) (st' := [xI (-1)]) (w' := w1) rfl ?_
    exact x_ret (P := True) rfl trivial ((h w1 ew1).2 c1)
theorem G_Md_copy_0 {d : Nat} {x1 : Int32} {x2 : Int32} {x3 : Int32} {x4 : Int32} {x5 : Int32} {w : xWd} {Q : xMV → xWd → Prop} (h : (∀ w1 : xWd, w1 = x_set w 2 0 0 → ((p_rg x1 0 3 → ((p_rg x3 0 3 → (vp_in x1 4 ∧ ((w1 67 x1.toNatClampNeg = (-9) → (∀ w2 : xWd, w2 = x_set w1 2 0 1 → Q (xI (-11)) w2)) ∧ (¬ (w1 67 x1.toNatClampNeg = (-9)) → (vp_in x3 4 ∧ ((w1 67 x3.toNatClampNeg = (-9) → (∀ w3 : xWd, w3 = x_set w1 2 0 1 → Q (xI (-11)) w3)) ∧ (¬ (w1 67 x3.toNatClampNeg = (-9)) → (vp_in x1 4 ∧ (vp_in x3 4 ∧ ((w1 67 x1.toNatClampNeg = w1 67 x3.toNatClampNeg → ((x2 < 0 → (∀ w4 : xWd, w4 = x_set w1 2 0 3 → Q (xI (-13)) w4)) ∧ (¬ (x2 < 0) → ((x4 < 0 → (∀ w5 : xWd, w5 = x_set w1 2 0 3 → Q (xI (-13)) w5)) ∧ (¬ (x4 < 0) → ((x5 < 0 → (∀ w6 : xWd, w6 = x_set w1 2 0 3 → Q (xI (-13)) w6)) ∧ (¬ (x5 < 0) → (vp_in x1 4 ∧ ((w1 68 x1.toNatClampNeg < x2 → (∀ w7 : xWd, w7 = x_set w1 2 0 3 → Q (xI (-13)) w7)) ∧ (¬ (w1 68 x1.toNatClampNeg < x2) → (vp_in x3 4 ∧ ((w1 68 x3.toNatClampNeg < x4 → (∀ w8 : xWd, w8 = x_set w1 2 0 3 → Q (xI (-13)) w8)) ∧ (¬ (w1 68 x3.toNatClampNeg < x4) → (vp_in x1 4 ∧ (((w1 68 x1.toNatClampNeg) - x2 < x5 → (∀ w9 : xWd, w9 = x_set w1 2 0 3 → Q (xI (-13)) w9)) ∧ (¬ ((w1 68 x1.toNatClampNeg) - x2 < x5) → (vp_in x3 4 ∧ ((x5 ≤ (w1 68 x3.toNatClampNeg) - x4 → ((x4 ≤ x2 → xWp (d + 2) m_Md_copy 166 [xA 7 2, xI x1, xI x2, xI x3, xI x4, xI x5, xI 1, xI 0, xI 0, xU] [] w1 Q) ∧ (¬ (x4 ≤ x2) → xWp (d + 2) m_Md_copy 166 [xA 7 2, xI x1, xI x2, xI x3, xI x4, xI x5, xI 1, xI 1, xI 0, xU] [] w1 Q))) ∧ (¬ (x5 ≤ (w1 68 x3.toNatClampNeg) - x4) → (∀ w10 : xWd, w10 = x_set w1 2 0 3 → Q (xI (-13)) w10)))))))))))))))))))) ∧ (¬ (w1 67 x1.toNatClampNeg = w1 67 x3.toNatClampNeg) → (∀ w11 : xWd, w11 = x_set w1 2 0 2 → Q (xI (-12)) w11)))))))))))) ∧ (¬ (p_rg x3 0 3) → Q (xI (-1)) w1))) ∧ (¬ (p_rg x1 0 3) → Q (xI (-1)) w1)))) : xWp (d + 2) m_Md_copy 0 [xA 7 2, xI x1, xI x2, xI x3, xI x4, xI x5, xU, xU, xU, xU] [] w Q := by
  refine x_goN 2 (pc' := 2) (ls' := [xA 7 2, xI x1, xI x2, xI x3, xI x4, xI x5, xU, xU, xU, xU]) (st' := [xI 0, xA 7 2]) (w' := w) rfl ?_
  refine x_goW (pc' := 5) (ls' := [xA 7 2, xI x1, xI x2, xI x3, xI x4, xI x5, xU, xU, xU, xU]) (st' := []) (w' := x_set w 2 0 0) rfl (fun w1 ew1 => ?_)
  refine x_goN 1 (pc' := 6) (ls' := [xA 7 2, xI x1, xI x2, xI x3, xI x4, xI x5, xU, xU, xU, xU]) (st' := [xI x1]) (w' := w1) rfl ?_
  refine x_call (y := m_Md_isSheet) (as := [xI x1]) (rst := []) rfl [xI x1] rfl ?_
  refine S_Md_isSheet (fun c1 => ?_) (fun c1 => ?_)
  · skip
    refine x_goN 1 (pc' := if (1 : Int32) = (0 : Int32) then 19 else 12) (ls' := [xA 7 2, xI x1, xI x2, xI x3, xI x4, xI x5, xU, xU, xU, xU]) (st' := []) (w' := w1) rfl ?_
    refine x_brF (by decide) ?_
    refine x_goN 1 (pc' := 13) (ls' := [xA 7 2, xI x1, xI x2, xI x3, xI x4, xI x5, xU, xU, xU, xU]) (st' := [xI x3]) (w' := w1) rfl ?_
    refine x_call (y := m_Md_isSheet) (as := [xI x3]) (rst := []) rfl [xI x3] rfl ?_
    refine S_Md_isSheet (fun c2 => ?_) (fun c2 => ?_)
    · skip
      refine x_goN 1 (pc' := if (1 : Int32) = (0 : Int32) then 19 else 21) (ls' := [xA 7 2, xI x1, xI x2, xI x3, xI x4, xI x5, xU, xU, xU, xU]) (st' := []) (w' := w1) rfl ?_
      refine x_brF (by decide) ?_
      refine x_goN 3 (pc' := 26) (ls' := [xA 7 2, xI x1, xI x2, xI x3, xI x4, xI x5, xU, xU, xU, xU]) (st' := [xI x1, xA 104 67]) (w' := w1) rfl ?_
      refine x_ob (P := vp_in x1 4) (pc' := 27) (ls' := [xA 7 2, xI x1, xI x2, xI x3, xI x4, xI x5, xU, xU, xU, xU]) (st' := [xI (w1 67 x1.toNatClampNeg)]) (w' := w1) rfl (((h w1 ew1).1 c1).1 c2).1 ?_
      refine x_goN 2 (pc' := if w1 67 x1.toNatClampNeg = (-9) then 43 else 32) (ls' := [xA 7 2, xI x1, xI x2, xI x3, xI x4, xI x5, xU, xU, xU, xU]) (st' := []) (w' := w1) rfl ?_
      refine x_br (fun c3 => ?_) (fun c3 => ?_)
      · skip
        refine x_goN 2 (pc' := 45) (ls' := [xA 7 2, xI x1, xI x2, xI x3, xI x4, xI x5, xU, xU, xU, xU]) (st' := [xI 1, xA 7 2]) (w' := w1) rfl ?_
        refine x_call (y := m_Md_fails) (as := [xA 7 2, xI 1]) (rst := []) rfl [xA 7 2, xI 1] rfl ?_
        refine S_Md_fails (fun w2 ew2 => ?_)
        exact x_ret (P := True) rfl trivial (((((h w1 ew1).1 c1).1 c2).2.1 c3) w2 ew2)
      · skip
        refine x_goN 3 (pc' := 37) (ls' := [xA 7 2, xI x1, xI x2, xI x3, xI x4, xI x5, xU, xU, xU, xU]) (st' := [xI x3, xA 104 67]) (w' := w1) rfl ?_
        refine x_ob (P := vp_in x3 4) (pc' := 38) (ls' := [xA 7 2, xI x1, xI x2, xI x3, xI x4, xI x5, xU, xU, xU, xU]) (st' := [xI (w1 67 x3.toNatClampNeg)]) (w' := w1) rfl ((((h w1 ew1).1 c1).1 c2).2.2 c3).1 ?_
        refine x_goN 2 (pc' := if w1 67 x3.toNatClampNeg = (-9) then 43 else 49) (ls' := [xA 7 2, xI x1, xI x2, xI x3, xI x4, xI x5, xU, xU, xU, xU]) (st' := []) (w' := w1) rfl ?_
        refine x_br (fun c4 => ?_) (fun c4 => ?_)
        · skip
          refine x_goN 2 (pc' := 45) (ls' := [xA 7 2, xI x1, xI x2, xI x3, xI x4, xI x5, xU, xU, xU, xU]) (st' := [xI 1, xA 7 2]) (w' := w1) rfl ?_
          refine x_call (y := m_Md_fails) (as := [xA 7 2, xI 1]) (rst := []) rfl [xA 7 2, xI 1] rfl ?_
          refine S_Md_fails (fun w3 ew3 => ?_)
          exact x_ret (P := True) rfl trivial ((((((h w1 ew1).1 c1).1 c2).2.2 c3).2.1 c4) w3 ew3)
        · skip
          refine x_goN 3 (pc' := 54) (ls' := [xA 7 2, xI x1, xI x2, xI x3, xI x4, xI x5, xU, xU, xU, xU]) (st' := [xI x1, xA 104 67]) (w' := w1) rfl ?_
          refine x_ob (P := vp_in x1 4) (pc' := 55) (ls' := [xA 7 2, xI x1, xI x2, xI x3, xI x4, xI x5, xU, xU, xU, xU]) (st' := [xI (w1 67 x1.toNatClampNeg)]) (w' := w1) rfl (((((h w1 ew1).1 c1).1 c2).2.2 c3).2.2 c4).1 ?_
          refine x_goN 3 (pc' := 60) (ls' := [xA 7 2, xI x1, xI x2, xI x3, xI x4, xI x5, xU, xU, xU, xU]) (st' := [xI x3, xA 104 67, xI (w1 67 x1.toNatClampNeg)]) (w' := w1) rfl ?_
          refine x_ob (P := vp_in x3 4) (pc' := 61) (ls' := [xA 7 2, xI x1, xI x2, xI x3, xI x4, xI x5, xU, xU, xU, xU]) (st' := [xI (w1 67 x3.toNatClampNeg), xI (w1 67 x1.toNatClampNeg)]) (w' := w1) rfl (((((h w1 ew1).1 c1).1 c2).2.2 c3).2.2 c4).2.1 ?_
          refine x_goN 1 (pc' := if w1 67 x1.toNatClampNeg = w1 67 x3.toNatClampNeg then 70 else 64) (ls' := [xA 7 2, xI x1, xI x2, xI x3, xI x4, xI x5, xU, xU, xU, xU]) (st' := []) (w' := w1) rfl ?_
          refine x_br (fun c5 => ?_) (fun c5 => ?_)
          · skip
            refine x_goN 2 (pc' := if x2 < 0 then 109 else 74) (ls' := [xA 7 2, xI x1, xI x2, xI x3, xI x4, xI x5, xU, xU, xU, xU]) (st' := []) (w' := w1) rfl ?_
            refine x_br (fun c6 => ?_) (fun c6 => ?_)
            · skip
              refine x_goN 4 (pc' := if (0 : Int32) = (0 : Int32) then 144 else 117) (ls' := [xA 7 2, xI x1, xI x2, xI x3, xI x4, xI x5, xI 0, xU, xU, xU]) (st' := []) (w' := w1) rfl ?_
              refine x_brT (by decide) ?_
              refine x_goN 2 (pc' := 146) (ls' := [xA 7 2, xI x1, xI x2, xI x3, xI x4, xI x5, xI 0, xU, xU, xU]) (st' := [xI 3, xA 7 2]) (w' := w1) rfl ?_
              refine x_call (y := m_Md_fails) (as := [xA 7 2, xI 3]) (rst := []) rfl [xA 7 2, xI 3] rfl ?_
              refine S_Md_fails (fun w4 ew4 => ?_)
              exact x_ret (P := True) rfl trivial ((((((((h w1 ew1).1 c1).1 c2).2.2 c3).2.2 c4).2.2.1 c5).1 c6) w4 ew4)
            · skip
              refine x_goN 2 (pc' := if x4 < 0 then 109 else 79) (ls' := [xA 7 2, xI x1, xI x2, xI x3, xI x4, xI x5, xU, xU, xU, xU]) (st' := []) (w' := w1) rfl ?_
              refine x_br (fun c7 => ?_) (fun c7 => ?_)
              · skip
                refine x_goN 4 (pc' := if (0 : Int32) = (0 : Int32) then 144 else 117) (ls' := [xA 7 2, xI x1, xI x2, xI x3, xI x4, xI x5, xI 0, xU, xU, xU]) (st' := []) (w' := w1) rfl ?_
                refine x_brT (by decide) ?_
                refine x_goN 2 (pc' := 146) (ls' := [xA 7 2, xI x1, xI x2, xI x3, xI x4, xI x5, xI 0, xU, xU, xU]) (st' := [xI 3, xA 7 2]) (w' := w1) rfl ?_
                refine x_call (y := m_Md_fails) (as := [xA 7 2, xI 3]) (rst := []) rfl [xA 7 2, xI 3] rfl ?_
                refine S_Md_fails (fun w5 ew5 => ?_)
                exact x_ret (P := True) rfl trivial (((((((((h w1 ew1).1 c1).1 c2).2.2 c3).2.2 c4).2.2.1 c5).2 c6).1 c7) w5 ew5)
              · skip
                refine x_goN 2 (pc' := if x5 < 0 then 109 else 84) (ls' := [xA 7 2, xI x1, xI x2, xI x3, xI x4, xI x5, xU, xU, xU, xU]) (st' := []) (w' := w1) rfl ?_
                refine x_br (fun c8 => ?_) (fun c8 => ?_)
                · skip
                  refine x_goN 4 (pc' := if (0 : Int32) = (0 : Int32) then 144 else 117) (ls' := [xA 7 2, xI x1, xI x2, xI x3, xI x4, xI x5, xI 0, xU, xU, xU]) (st' := []) (w' := w1) rfl ?_
                  refine x_brT (by decide) ?_
                  refine x_goN 2 (pc' := 146) (ls' := [xA 7 2, xI x1, xI x2, xI x3, xI x4, xI x5, xI 0, xU, xU, xU]) (st' := [xI 3, xA 7 2]) (w' := w1) rfl ?_
                  refine x_call (y := m_Md_fails) (as := [xA 7 2, xI 3]) (rst := []) rfl [xA 7 2, xI 3] rfl ?_
                  refine S_Md_fails (fun w6 ew6 => ?_)
                  exact x_ret (P := True) rfl trivial ((((((((((h w1 ew1).1 c1).1 c2).2.2 c3).2.2 c4).2.2.1 c5).2 c6).2 c7).1 c8) w6 ew6)
                · skip
                  refine x_goN 4 (pc' := 90) (ls' := [xA 7 2, xI x1, xI x2, xI x3, xI x4, xI x5, xU, xU, xU, xU]) (st' := [xI x1, xA 104 68, xI x2]) (w' := w1) rfl ?_
                  refine x_ob (P := vp_in x1 4) (pc' := 91) (ls' := [xA 7 2, xI x1, xI x2, xI x3, xI x4, xI x5, xU, xU, xU, xU]) (st' := [xI (w1 68 x1.toNatClampNeg), xI x2]) (w' := w1) rfl (((((((((h w1 ew1).1 c1).1 c2).2.2 c3).2.2 c4).2.2.1 c5).2 c6).2 c7).2 c8).1 ?_
                  refine x_goN 1 (pc' := if w1 68 x1.toNatClampNeg < x2 then 109 else 94) (ls' := [xA 7 2, xI x1, xI x2, xI x3, xI x4, xI x5, xU, xU, xU, xU]) (st' := []) (w' := w1) rfl ?_
                  refine x_br (fun c9 => ?_) (fun c9 => ?_)
                  · skip
                    refine x_goN 4 (pc' := if (0 : Int32) = (0 : Int32) then 144 else 117) (ls' := [xA 7 2, xI x1, xI x2, xI x3, xI x4, xI x5, xI 0, xU, xU, xU]) (st' := []) (w' := w1) rfl ?_
                    refine x_brT (by decide) ?_
                    refine x_goN 2 (pc' := 146) (ls' := [xA 7 2, xI x1, xI x2, xI x3, xI x4, xI x5, xI 0, xU, xU, xU]) (st' := [xI 3, xA 7 2]) (w' := w1) rfl ?_
                    refine x_call (y := m_Md_fails) (as := [xA 7 2, xI 3]) (rst := []) rfl [xA 7 2, xI 3] rfl ?_
                    refine S_Md_fails (fun w7 ew7 => ?_)
                    exact x_ret (P := True) rfl trivial (((((((((((h w1 ew1).1 c1).1 c2).2.2 c3).2.2 c4).2.2.1 c5).2 c6).2 c7).2 c8).2.1 c9) w7 ew7)
                  · skip
                    refine x_goN 4 (pc' := 101) (ls' := [xA 7 2, xI x1, xI x2, xI x3, xI x4, xI x5, xU, xU, xU, xU]) (st' := [xI x3, xA 104 68, xI x4]) (w' := w1) rfl ?_
                    refine x_ob (P := vp_in x3 4) (pc' := 102) (ls' := [xA 7 2, xI x1, xI x2, xI x3, xI x4, xI x5, xU, xU, xU, xU]) (st' := [xI (w1 68 x3.toNatClampNeg), xI x4]) (w' := w1) rfl ((((((((((h w1 ew1).1 c1).1 c2).2.2 c3).2.2 c4).2.2.1 c5).2 c6).2 c7).2 c8).2.2 c9).1 ?_
                    refine x_goN 1 (pc' := if w1 68 x3.toNatClampNeg < x4 then 109 else 105) (ls' := [xA 7 2, xI x1, xI x2, xI x3, xI x4, xI x5, xU, xU, xU, xU]) (st' := []) (w' := w1) rfl ?_
                    refine x_br (fun c10 => ?_) (fun c10 => ?_)
                    · skip
                      refine x_goN 4 (pc' := if (0 : Int32) = (0 : Int32) then 144 else 117) (ls' := [xA 7 2, xI x1, xI x2, xI x3, xI x4, xI x5, xI 0, xU, xU, xU]) (st' := []) (w' := w1) rfl ?_
                      refine x_brT (by decide) ?_
                      refine x_goN 2 (pc' := 146) (ls' := [xA 7 2, xI x1, xI x2, xI x3, xI x4, xI x5, xI 0, xU, xU, xU]) (st' := [xI 3, xA 7 2]) (w' := w1) rfl ?_
                      refine x_call (y := m_Md_fails) (as := [xA 7 2, xI 3]) (rst := []) rfl [xA 7 2, xI 3] rfl ?_
                      refine S_Md_fails (fun w8 ew8 => ?_)
                      exact x_ret (P := True) rfl trivial ((((((((((((h w1 ew1).1 c1).1 c2).2.2 c3).2.2 c4).2.2.1 c5).2 c6).2 c7).2 c8).2.2 c9).2.1 c10) w8 ew8)
                    · skip
                      refine x_goN 5 (pc' := if (1 : Int32) = (0 : Int32) then 144 else 117) (ls' := [xA 7 2, xI x1, xI x2, xI x3, xI x4, xI x5, xI 1, xU, xU, xU]) (st' := []) (w' := w1) rfl ?_
                      refine x_brF (by decide) ?_
                      refine x_goN 4 (pc' := 124) (ls' := [xA 7 2, xI x1, xI x2, xI x3, xI x4, xI x5, xI 1, xU, xU, xU]) (st' := [xI x1, xA 104 68, xI x5]) (w' := w1) rfl ?_
                      refine x_ob (P := vp_in x1 4) (pc' := 125) (ls' := [xA 7 2, xI x1, xI x2, xI x3, xI x4, xI x5, xI 1, xU, xU, xU]) (st' := [xI (w1 68 x1.toNatClampNeg), xI x5]) (w' := w1) rfl (((((((((((h w1 ew1).1 c1).1 c2).2.2 c3).2.2 c4).2.2.1 c5).2 c6).2 c7).2 c8).2.2 c9).2.2 c10).1 ?_
                      refine x_goN 3 (pc' := if (w1 68 x1.toNatClampNeg) - x2 < x5 then 144 else 130) (ls' := [xA 7 2, xI x1, xI x2, xI x3, xI x4, xI x5, xI 1, xU, xU, xU]) (st' := []) (w' := w1) rfl ?_
                      refine x_br (fun c11 => ?_) (fun c11 => ?_)
                      · skip
                        refine x_goN 2 (pc' := 146) (ls' := [xA 7 2, xI x1, xI x2, xI x3, xI x4, xI x5, xI 1, xU, xU, xU]) (st' := [xI 3, xA 7 2]) (w' := w1) rfl ?_
                        refine x_call (y := m_Md_fails) (as := [xA 7 2, xI 3]) (rst := []) rfl [xA 7 2, xI 3] rfl ?_
                        refine S_Md_fails (fun w9 ew9 => ?_)
                        exact x_ret (P := True) rfl trivial (((((((((((((h w1 ew1).1 c1).1 c2).2.2 c3).2.2 c4).2.2.1 c5).2 c6).2 c7).2 c8).2.2 c9).2.2 c10).2.1 c11) w9 ew9)
                      · skip
                        refine x_goN 4 (pc' := 137) (ls' := [xA 7 2, xI x1, xI x2, xI x3, xI x4, xI x5, xI 1, xU, xU, xU]) (st' := [xI x3, xA 104 68, xI x5]) (w' := w1) rfl ?_
                        refine x_ob (P := vp_in x3 4) (pc' := 138) (ls' := [xA 7 2, xI x1, xI x2, xI x3, xI x4, xI x5, xI 1, xU, xU, xU]) (st' := [xI (w1 68 x3.toNatClampNeg), xI x5]) (w' := w1) rfl ((((((((((((h w1 ew1).1 c1).1 c2).2.2 c3).2.2 c4).2.2.1 c5).2 c6).2 c7).2 c8).2.2 c9).2.2 c10).2.2 c11).1 ?_
                        refine x_goN 3 (pc' := if x5 ≤ (w1 68 x3.toNatClampNeg) - x4 then 150 else 144) (ls' := [xA 7 2, xI x1, xI x2, xI x3, xI x4, xI x5, xI 1, xU, xU, xU]) (st' := []) (w' := w1) rfl ?_
                        refine x_br (fun c12 => ?_) (fun c12 => ?_)
                        · skip
                          refine x_goN 3 (pc' := if x4 ≤ x2 then 160 else 156) (ls' := [xA 7 2, xI x1, xI x2, xI x3, xI x4, xI x5, xI 1, xU, xU, xU]) (st' := []) (w' := w1) rfl ?_
                          refine x_br (fun c13 => ?_) (fun c13 => ?_)
                          · skip
                            refine x_goN 4 (pc' := 166) (ls' := [xA 7 2, xI x1, xI x2, xI x3, xI x4, xI x5, xI 1, xI 0, xI 0, xU]) (st' := []) (w' := w1) rfl ?_
                            exact ((((((((((((((h w1 ew1).1 c1).1 c2).2.2 c3).2.2 c4).2.2.1 c5).2 c6).2 c7).2 c8).2.2 c9).2.2 c10).2.2 c11).2.1 c12).1 c13)
                          · skip
                            refine x_goN 5 (pc' := 166) (ls' := [xA 7 2, xI x1, xI x2, xI x3, xI x4, xI x5, xI 1, xI 1, xI 0, xU]) (st' := []) (w' := w1) rfl ?_
                            exact ((((((((((((((h w1 ew1).1 c1).1 c2).2.2 c3).2.2 c4).2.2.1 c5).2 c6).2 c7).2 c8).2.2 c9).2.2 c10).2.2 c11).2.1 c12).2 c13)
                        · skip
                          refine x_goN 2 (pc' := 146) (ls' := [xA 7 2, xI x1, xI x2, xI x3, xI x4, xI x5, xI 1, xU, xU, xU]) (st' := [xI 3, xA 7 2]) (w' := w1) rfl ?_
                          refine x_call (y := m_Md_fails) (as := [xA 7 2, xI 3]) (rst := []) rfl [xA 7 2, xI 3] rfl ?_
                          refine S_Md_fails (fun w10 ew10 => ?_)
                          exact x_ret (P := True) rfl trivial ((((((((((((((h w1 ew1).1 c1).1 c2).2.2 c3).2.2 c4).2.2.1 c5).2 c6).2 c7).2 c8).2.2 c9).2.2 c10).2.2 c11).2.2 c12) w10 ew10)
          · skip
            refine x_goN 2 (pc' := 66) (ls' := [xA 7 2, xI x1, xI x2, xI x3, xI x4, xI x5, xU, xU, xU, xU]) (st' := [xI 2, xA 7 2]) (w' := w1) rfl ?_
            refine x_call (y := m_Md_fails) (as := [xA 7 2, xI 2]) (rst := []) rfl [xA 7 2, xI 2] rfl ?_
            refine S_Md_fails (fun w11 ew11 => ?_)
            exact x_ret (P := True) rfl trivial (((((((h w1 ew1).1 c1).1 c2).2.2 c3).2.2 c4).2.2.2 c5) w11 ew11)
    · skip
      refine x_goN 1 (pc' := if (0 : Int32) = (0 : Int32) then 19 else 21) (ls' := [xA 7 2, xI x1, xI x2, xI x3, xI x4, xI x5, xU, xU, xU, xU]) (st' := []) (w' := w1) rfl ?_
      refine x_brT (by decide) ?_
      refine x_goN 1 (pc' := 20) (ls' := [xA 7 2, xI x1, xI x2, xI x3, xI x4, xI x5, xU, xU, xU, xU]) (st' := [xI (-1)]) (w' := w1) rfl ?_
      exact x_ret (P := True) rfl trivial (((h w1 ew1).1 c1).2 c2)
  · skip
    refine x_goN 1 (pc' := if (0 : Int32) = (0 : Int32) then 19 else 12) (ls' := [xA 7 2, xI x1, xI x2, xI x3, xI x4, xI x5, xU, xU, xU, xU]) (st' := []) (w' := w1) rfl ?_
    refine x_brT (by decide) ?_
    refine x_goN 1 (pc' := 20) (ls' := [xA 7 2, xI x1, xI x2, xI x3, xI x4, xI x5, xU, xU, xU, xU]) (st' := [xI (-1)]) (w' := w1) rfl ?_
    exact x_ret (P := True) rfl trivial ((h w1 ew1).2 c1)
theorem G_Md_copy_166 {d : Nat} {x1 : Int32} {x2 : Int32} {x3 : Int32} {x4 : Int32} {x5 : Int32} {x6 : Int32} {x7 : Int32} {x8 : Int32} {w : xWd} {Q : xMV → xWd → Prop} (h : ((x5 ≤ x8 → Q (xI x5) w) ∧ (¬ (x5 ≤ x8) → ((x7 = 0 → (vp_in (((60 * x1) + x2) + x8) 240 ∧ (vp_in (((60 * x3) + x4) + x8) 240 ∧ ∀ w1 : xWd, w1 = x_set w 69 ((((60 * x3) + x4) + x8).toNatClampNeg) (w 69 (((60 * x1) + x2) + x8).toNatClampNeg) → xWp (d + 2) m_Md_copy 166 [xA 7 2, xI x1, xI x2, xI x3, xI x4, xI x5, xI x6, xI x7, xI (x8 + 1), xU] [] w1 Q))) ∧ (¬ (x7 = 0) → (vp_in (((60 * x1) + x2) + ((x5 - 1) - x8)) 240 ∧ (vp_in (((60 * x3) + x4) + ((x5 - 1) - x8)) 240 ∧ ∀ w2 : xWd, w2 = x_set w 69 ((((60 * x3) + x4) + ((x5 - 1) - x8)).toNatClampNeg) (w 69 (((60 * x1) + x2) + ((x5 - 1) - x8)).toNatClampNeg) → xWp (d + 2) m_Md_copy 166 [xA 7 2, xI x1, xI x2, xI x3, xI x4, xI x5, xI x6, xI x7, xI (x8 + 1), xU] [] w2 Q))))))) : xWp (d + 2) m_Md_copy 166 [xA 7 2, xI x1, xI x2, xI x3, xI x4, xI x5, xI x6, xI x7, xI x8, xU] [] w Q := by
  refine x_goN 3 (pc' := if x5 ≤ x8 then 227 else 173) (ls' := [xA 7 2, xI x1, xI x2, xI x3, xI x4, xI x5, xI x6, xI x7, xI x8, xU]) (st' := []) (w' := w) rfl ?_
  refine x_br (fun c1 => ?_) (fun c1 => ?_)
  · skip
    refine x_goN 1 (pc' := 229) (ls' := [xA 7 2, xI x1, xI x2, xI x3, xI x4, xI x5, xI x6, xI x7, xI x8, xU]) (st' := [xI x5]) (w' := w) rfl ?_
    exact x_ret (P := True) rfl trivial (h.1 c1)
  · skip
    refine x_goN 2 (pc' := if x7 = 0 then 188 else 178) (ls' := [xA 7 2, xI x1, xI x2, xI x3, xI x4, xI x5, xI x6, xI x7, xI x8, xU]) (st' := []) (w' := w) rfl ?_
    refine x_br (fun c2 => ?_) (fun c2 => ?_)
    · skip
      refine x_goN 20 (pc' := 219) (ls' := [xA 7 2, xI x1, xI x2, xI x3, xI x4, xI x5, xI x6, xI x7, xI x8, xI x8]) (st' := [xI (((60 * x1) + x2) + x8), xA 340 69, xI (((60 * x3) + x4) + x8), xA 340 69]) (w' := w) rfl ?_
      refine x_ob (P := vp_in (((60 * x1) + x2) + x8) 240) (pc' := 220) (ls' := [xA 7 2, xI x1, xI x2, xI x3, xI x4, xI x5, xI x6, xI x7, xI x8, xI x8]) (st' := [xI (w 69 (((60 * x1) + x2) + x8).toNatClampNeg), xI (((60 * x3) + x4) + x8), xA 340 69]) (w' := w) rfl ((h.2 c1).1 c2).1 ?_
      refine x_obW (P := vp_in (((60 * x3) + x4) + x8) 240) (pc' := 221) (ls' := [xA 7 2, xI x1, xI x2, xI x3, xI x4, xI x5, xI x6, xI x7, xI x8, xI x8]) (st' := []) (w' := x_set w 69 ((((60 * x3) + x4) + x8).toNatClampNeg) (w 69 (((60 * x1) + x2) + x8).toNatClampNeg)) rfl ((h.2 c1).1 c2).2.1 (fun w1 ew1 => ?_)
      refine x_goN 2 (pc' := 166) (ls' := [xA 7 2, xI x1, xI x2, xI x3, xI x4, xI x5, xI x6, xI x7, xI (x8 + 1), xI x8]) (st' := []) (w' := w1) rfl ?_
      exact x_weak ((((h.2 c1).1 c2).2.2 w1 ew1)) ⟨Or.inl rfl, Or.inl rfl, Or.inl rfl, Or.inl rfl, Or.inl rfl, Or.inl rfl, Or.inl rfl, Or.inl rfl, Or.inl rfl, Or.inr ⟨rfl, rfl⟩, trivial⟩
    · skip
      refine x_goN 25 (pc' := 219) (ls' := [xA 7 2, xI x1, xI x2, xI x3, xI x4, xI x5, xI x6, xI x7, xI x8, xI ((x5 - 1) - x8)]) (st' := [xI (((60 * x1) + x2) + ((x5 - 1) - x8)), xA 340 69, xI (((60 * x3) + x4) + ((x5 - 1) - x8)), xA 340 69]) (w' := w) rfl ?_
      refine x_ob (P := vp_in (((60 * x1) + x2) + ((x5 - 1) - x8)) 240) (pc' := 220) (ls' := [xA 7 2, xI x1, xI x2, xI x3, xI x4, xI x5, xI x6, xI x7, xI x8, xI ((x5 - 1) - x8)]) (st' := [xI (w 69 (((60 * x1) + x2) + ((x5 - 1) - x8)).toNatClampNeg), xI (((60 * x3) + x4) + ((x5 - 1) - x8)), xA 340 69]) (w' := w) rfl ((h.2 c1).2 c2).1 ?_
      refine x_obW (P := vp_in (((60 * x3) + x4) + ((x5 - 1) - x8)) 240) (pc' := 221) (ls' := [xA 7 2, xI x1, xI x2, xI x3, xI x4, xI x5, xI x6, xI x7, xI x8, xI ((x5 - 1) - x8)]) (st' := []) (w' := x_set w 69 ((((60 * x3) + x4) + ((x5 - 1) - x8)).toNatClampNeg) (w 69 (((60 * x1) + x2) + ((x5 - 1) - x8)).toNatClampNeg)) rfl ((h.2 c1).2 c2).2.1 (fun w2 ew2 => ?_)
      refine x_goN 2 (pc' := 166) (ls' := [xA 7 2, xI x1, xI x2, xI x3, xI x4, xI x5, xI x6, xI x7, xI (x8 + 1), xI ((x5 - 1) - x8)]) (st' := []) (w' := w2) rfl ?_
      exact x_weak ((((h.2 c1).2 c2).2.2 w2 ew2)) ⟨Or.inl rfl, Or.inl rfl, Or.inl rfl, Or.inl rfl, Or.inl rfl, Or.inl rfl, Or.inl rfl, Or.inl rfl, Or.inl rfl, Or.inr ⟨rfl, rfl⟩, trivial⟩
def vBk (f : Nat → Int32) (S D n t : Nat) : Nat → Int32 := fun q => if D + (n - t) ≤ q ∧ q < D + n then f (S + (q - D)) else f q
theorem L_copyF {d a b i j n : Nat} {f : Nat → Int32} {x6 : Int32} {Q : xMV → xWd → Prop} (hi : 60 * a + i + n ≤ 240) (hj : 60 * b + j + n ≤ 240) (hS : ∀ u, u < n → ¬ (60 * b + j ≤ 60 * a + i + u ∧ 60 * a + i + u < 60 * b + j + u)) : ∀ (m t : Nat) (w : xWd), t + m = n → (∀ q, w 69 q = va_cpy f f (60 * a + i) (60 * b + j) t q) → (∀ w', (∀ c, c ≠ 69 → w' c = w c) → (∀ q, w' 69 q = va_cpy f f (60 * a + i) (60 * b + j) n q) → Q (xI (nI n)) w') → xWp (d + 2) m_Md_copy 166 [xA 7 2, xI (nI a), xI (nI i), xI (nI b), xI (nI j), xI (nI n), xI x6, xI 0, xI (nI t), xU] [] w Q := by
  intro m
  induction m with
  | zero =>
    intro t w ht hw hq
    have e : t = n := by omega
    subst e
    exact G_Md_copy_166 ⟨fun _ => hq w (fun _ _ => rfl) hw, fun c => absurd ((z_le (by omega) (by omega)).mpr (Nat.le_refl _)) c⟩
  | succ m ih =>
    intro t w ht hw hq
    refine G_Md_copy_166 ⟨fun c => absurd ((z_le (by omega) (by omega)).mp c) (by omega), fun _ => ⟨fun _ => ?_, fun c => absurd rfl c⟩⟩
    rw [z_60, z_60, nI_add, nI_add, nI_1]
    refine ⟨z_in (by omega) (by decide), z_in (by omega) (by decide), fun w1 e1 => ?_⟩
    rw [z_cl' (by omega), z_cl' (by omega)] at e1
    refine ih (t + 1) w1 (by omega) (fun q => ?_) (fun w' hf hv => hq w' (fun c hc => by rw [hf c hc, e1, x_set_o hc]) hv)
    rw [e1, x_set_s]
    have hs := hS t (by omega)
    have er : w 69 (60 * a + i + t) = f (60 * a + i + t) := by
      rw [hw]; unfold va_cpy; rw [if_neg (by omega)]
    rw [er]
    unfold va_cpy
    by_cases e : q = 60 * b + j + t
    · rw [e, upd_s, if_pos (by omega)]; congr 1; omega
    · rw [upd_o e, hw]
      unfold va_cpy
      by_cases e2 : 60 * b + j ≤ q ∧ q < 60 * b + j + t
      · rw [if_pos e2, if_pos (by omega)]
      · rw [if_neg e2, if_neg (by omega)]
theorem L_copyB {d a b i j n : Nat} {f : Nat → Int32} {x6 : Int32} {Q : xMV → xWd → Prop} (hi : 60 * a + i + n ≤ 240) (hj : 60 * b + j + n ≤ 240) (hS : ∀ u, u < n → ¬ (60 * b + j + (u + 1) ≤ 60 * a + i + u ∧ 60 * a + i + u < 60 * b + j + n)) : ∀ (m t : Nat) (w : xWd), t + m = n → (∀ q, w 69 q = vBk f (60 * a + i) (60 * b + j) n t q) → (∀ w', (∀ c, c ≠ 69 → w' c = w c) → (∀ q, w' 69 q = va_cpy f f (60 * a + i) (60 * b + j) n q) → Q (xI (nI n)) w') → xWp (d + 2) m_Md_copy 166 [xA 7 2, xI (nI a), xI (nI i), xI (nI b), xI (nI j), xI (nI n), xI x6, xI 1, xI (nI t), xU] [] w Q := by
  intro m
  induction m with
  | zero =>
    intro t w ht hw hq
    have e : t = n := by omega
    subst e
    refine G_Md_copy_166 ⟨fun _ => hq w (fun _ _ => rfl) (fun q => ?_), fun c => absurd ((z_le (by omega) (by omega)).mpr (Nat.le_refl _)) c⟩
    rw [hw]
    unfold vBk va_cpy
    rw [Nat.sub_self, Nat.add_zero]
  | succ m ih =>
    intro t w ht hw hq
    refine G_Md_copy_166 ⟨fun c => absurd ((z_le (by omega) (by omega)).mp c) (by omega), fun _ => ⟨fun c => absurd c n_10, fun _ => ?_⟩⟩
    have e0 : nI n - 1 - nI t = nI (n - 1 - t) := by
      rw [show (1 : Int32) = nI 1 from rfl, pk_sub (by omega), pk_sub (by omega)]
    rw [e0, z_60, z_60, nI_add, nI_add, nI_1]
    refine ⟨z_in (by omega) (by decide), z_in (by omega) (by decide), fun w1 e1 => ?_⟩
    rw [z_cl' (by omega), z_cl' (by omega)] at e1
    refine ih (t + 1) w1 (by omega) (fun q => ?_) (fun w' hf hv => hq w' (fun c hc => by rw [hf c hc, e1, x_set_o hc]) hv)
    rw [e1, x_set_s]
    have hs := hS (n - 1 - t) (by omega)
    have er : w 69 (60 * a + i + (n - 1 - t)) = f (60 * a + i + (n - 1 - t)) := by
      rw [hw]; unfold vBk; rw [if_neg (by omega)]
    rw [er]
    unfold vBk
    by_cases e : q = 60 * b + j + (n - 1 - t)
    · rw [e, upd_s, if_pos (by omega)]; congr 1; omega
    · rw [upd_o e, hw]
      unfold vBk
      by_cases e2 : 60 * b + j + (n - t) ≤ q ∧ q < 60 * b + j + n
      · rw [if_pos e2, if_pos (by omega)]
      · rw [if_neg e2, if_neg (by omega)]
theorem C_copy {s : xS} {w w1 : xWd} {a b i j n : Nat} (h : sC s w) (ha : a < 4) (hb : b < 4) (hr : 0 < s_r s b) (hi : i + n ≤ 60) (hj : j + n ≤ 60) (e1 : w1 = x_put w (32 * (1057 + b) + 1) (va_cpy (w (32 * (1057 + a) + 1)) (w (32 * (1057 + b) + 1)) i j n)) : sC (uCp s a b i j n) w1 ∧ fC w w1 := by
  have hbb := h.1.1 b hb
  refine ⟨sC_uSh h hb hbb.1 hbb.2 (fun c c1 c2 => by rw [e1, x_put_o c2]) ⟨fun q => absurd q (by omega), fun _ => ?_, fun q hq => ?_⟩, fun c hc => by rw [e1, x_put_o (by omega)]⟩
  · rw [e1, x_put_o (by omega)]; exact (h.2.1 b hb).2.1 hr
  · rw [e1, x_put_self]
    unfold va_cpy
    by_cases e : j ≤ q ∧ q < j + n
    · rw [if_pos e, if_pos e]; exact (h.2.1 a ha).2.2 _ (by omega)
    · rw [if_neg e, if_neg e]; exact (h.2.1 b hb).2.2 _ hq
theorem M_copy {s : xS} {w w1 : xWd} {a b i j n : Nat} (h : sM s w) (ha : a < 4) (hb : b < 4) (hr : 0 < s_r s b) (hi : i + n ≤ 60) (hj : j + n ≤ 60) (hf : ∀ c, c ≠ 69 → w1 c = w c) (hv : ∀ q, w1 69 q = va_cpy (w 69) (w 69) (60 * a + i) (60 * b + j) n q) : sM (uCp s a b i j n) w1 ∧ fM w w1 := by
  have hbb := h.1.1 b hb
  refine ⟨sM_uSh h hb hbb.1 hbb.2 (fun c c1 c2 c3 => hf c c3) (fun q hq hne => ⟨by rw [hf _ (by decide)], by rw [hf _ (by decide)], fun u hu => ?_⟩) ⟨fun q => absurd q (by omega), fun _ => ?_, fun q hq => ?_⟩, fun c c1 c2 => hf c (by omega)⟩
  · rw [hv]; unfold va_cpy; rw [if_neg (by omega)]
  · rw [hf _ (by decide), hf _ (by decide)]; exact (h.2.1 b hb).2.1 hr
  · rw [hv]
    unfold va_cpy
    by_cases e : j ≤ q ∧ q < j + n
    · rw [if_pos e, if_pos (by omega), show 60 * a + i + (60 * b + q - (60 * b + j)) = 60 * a + (i + (q - j)) by omega]
      exact (h.2.1 a ha).2.2 _ (by omega)
    · rw [if_neg e, if_neg (by omega)]; exact (h.2.1 b hb).2.2 _ hq
def pCp (s : xS) (a b : Nat) (x2 x4 x5 : Int32) : Prop := 0 ≤ x2.toInt ∧ 0 ≤ x4.toInt ∧ 0 ≤ x5.toInt ∧ x5.toInt + x2.toInt ≤ s_n s a ∧ x5.toInt + x4.toInt ≤ s_n s b
theorem pCp_hc {s : xS} {a b : Nat} {x2 x4 x5 : Int32} (ha : s_n s a ≤ 60) (hb : s_n s b ≤ 60) : pCp s a b x2 x4 x5 ↔ p_hc (nI (s_n s a)) x2 x5 ∧ p_hc (nI (s_n s b)) x4 x5 := by
  unfold pCp
  constructor
  · rintro ⟨h1, h2, h3, h4, h5⟩
    exact ⟨(p_hc_iff ha h3).mpr ⟨h1, h4⟩, (p_hc_iff hb h3).mpr ⟨h2, h5⟩⟩
  · rintro ⟨h1, h2⟩
    have q1 := (p_hc_iff ha h1.1).mp h1
    have q2 := (p_hc_iff hb h1.1).mp h2
    exact ⟨q1.1, q2.1, h1.1, q1.2, q2.2⟩
theorem O_copy (s : xS) (x1 x2 x3 x4 x5 : Int32) : oB m_Vp_copy [xA 6 1, xI x1, xI x2, xI x3, xI x4, xI x5, xU, xU] m_Md_copy [xA 7 2, xI x1, xI x2, xI x3, xI x4, xI x5, xU, xU, xU, xU] s := by
  by_cases hp : p_rg x1 0 3
  · by_cases hp2 : p_rg x3 0 3
    · obtain ⟨a, ha, rfl⟩ := rg3.mp hp
      obtain ⟨b, hb, rfl⟩ := rg3.mp hp2
      have hina : vp_in (nI a) 4 := z_in ha (by decide)
      have hinb : vp_in (nI b) 4 := z_in hb (by decide)
      by_cases hra : s_r s a = 0
      · refine ⟨(-11), uF s 1, fun w h => G_Vp_copy_0 (fun w1 e1 => ?_), fun w h => G_Md_copy_0 (fun w1 e1 => ?_)⟩
        · have g1 := sC_f h e1
          have k1 : w1 (1057 + a) 1 = 0 := ((g1.1.2.1 a ha).1 hra).1
          rw [z_ad ha, z_ad hb, k1]
          refine ⟨fun _ => ⟨fun _ => ⟨hina, hinb, fun _ w2 e2 => ?_, fun c => absurd rfl c⟩, fun c => absurd hp2 c⟩, fun c => absurd hp c⟩
          have g2 := sC_f g1.1 e2
          exact cF g2.1 (fC_tr g1.2 g2.2)
        · have g1 := sM_f h e1
          have k1 : w1 67 a = -9 := (g1.1.2.1 a ha).1 hra
          rw [z_cl' (show a < 2 ^ 31 by omega), k1]
          refine ⟨fun _ => ⟨fun _ => ⟨hina, fun _ w2 e2 => ?_, fun c => absurd rfl c⟩, fun c => absurd hp2 c⟩, fun c => absurd hp c⟩
          have g2 := sM_f g1.1 e2
          exact mF g2.1 (fM_tr g1.2 g2.2)
      · by_cases hrb : s_r s b = 0
        · refine ⟨(-11), uF s 1, fun w h => G_Vp_copy_0 (fun w1 e1 => ?_), fun w h => G_Md_copy_0 (fun w1 e1 => ?_)⟩
          · have g1 := sC_f h e1
            have k1 : w1 (1057 + b) 1 = 0 := ((g1.1.2.1 b hb).1 hrb).1
            have k2 : w1 (1057 + a) 1 = 1 := ((g1.1.2.1 a ha).2.1 (by show 0 < s_r s a; omega)).1
            rw [z_ad ha, z_ad hb, k1, k2]
            refine ⟨fun _ => ⟨fun _ => ⟨hina, hinb, fun c => absurd c n_10, fun _ => ⟨fun _ w2 e2 => ?_, fun c => absurd rfl c⟩⟩, fun c => absurd hp2 c⟩, fun c => absurd hp c⟩
            have g2 := sC_f g1.1 e2
            exact cF g2.1 (fC_tr g1.2 g2.2)
          · have g1 := sM_f h e1
            have hba := h.1.1 a ha
            have k1 : w1 67 b = -9 := (g1.1.2.1 b hb).1 hrb
            have k2 : w1 67 a = nI (s_r s a - 1) := ((g1.1.2.1 a ha).2.1 (by show 0 < s_r s a; omega)).1
            rw [z_cl' (show a < 2 ^ 31 by omega), z_cl' (show b < 2 ^ 31 by omega), k1, k2]
            refine ⟨fun _ => ⟨fun _ => ⟨hina, fun c => absurd c (fun q => z_n9 (by omega) q.symm), fun _ => ⟨hinb, fun _ w2 e2 => ?_, fun c => absurd rfl c⟩⟩, fun c => absurd hp2 c⟩, fun c => absurd hp c⟩
            have g2 := sM_f g1.1 e2
            exact mF g2.1 (fM_tr g1.2 g2.2)
        · have kC : ∀ w1, sC (uF s 0) w1 → (w1 (1057 + a) 1 = 1 ∧ w1 (1057 + a) 2 = nI (s_r s a - 1) ∧ w1 (1057 + a) 3 = nI (s_n s a)) ∧ (w1 (1057 + b) 1 = 1 ∧ w1 (1057 + b) 2 = nI (s_r s b - 1) ∧ w1 (1057 + b) 3 = nI (s_n s b)) := fun w1 g1 => ⟨(g1.2.1 a ha).2.1 (by show 0 < s_r s a; omega), (g1.2.1 b hb).2.1 (by show 0 < s_r s b; omega)⟩
          have kM : ∀ w1, sM (uF s 0) w1 → (w1 67 a = nI (s_r s a - 1) ∧ w1 68 a = nI (s_n s a)) ∧ (w1 67 b = nI (s_r s b - 1) ∧ w1 68 b = nI (s_n s b)) := fun w1 g1 => ⟨(g1.2.1 a ha).2.1 (by show 0 < s_r s a; omega), (g1.2.1 b hb).2.1 (by show 0 < s_r s b; omega)⟩
          by_cases hl : nI (s_r s a - 1) = nI (s_r s b - 1)
          · by_cases hc : pCp s a b x2 x4 x5
            · obtain ⟨q1, q2, q3, q4, q5⟩ := id hc
              obtain ⟨i, rfl, ei, -⟩ := z_of q1
              obtain ⟨j, rfl, ej, -⟩ := z_of q2
              obtain ⟨n, rfl, en, -⟩ := z_of q3
              refine ⟨(nI n), uCp (uF s 0) a b i j n, fun w h => G_Vp_copy_0 (fun w1 e1 => ?_), fun w h => G_Md_copy_0 (fun w1 e1 => ?_)⟩
              · have g1 := sC_f h e1
                have hba := h.1.1 a ha
                have hbb := h.1.1 b hb
                obtain ⟨⟨a1, a2, a3⟩, b1, b2, b3⟩ := kC w1 g1.1
                have hh := (pCp_hc hba.2 hbb.2).mp hc
                rw [z_ad ha, z_ad hb, a1, a2, a3, b1, b2, b3, z_cl' (show i < 2 ^ 31 by omega), z_cl' (show j < 2 ^ 31 by omega), z_cl' (show n < 2 ^ 31 by omega)]
                refine ⟨fun _ => ⟨fun _ => ⟨hina, hinb, fun c => absurd c n_10, fun _ => ⟨fun c => absurd c n_10, fun _ => ⟨fun _ => ⟨fun _ => ⟨fun _ => ⟨⟨z_neg (by omega), z_neg (by omega), z_neg (by omega), by omega, by omega⟩, fun w2 e2 => ?_⟩, fun c => absurd hh.2 c⟩, fun c => absurd hh.1 c⟩, fun c => absurd hl c⟩⟩⟩, fun c => absurd hp2 c⟩, fun c => absurd hp c⟩
                have g2 := C_copy g1.1 ha hb (by show 0 < s_r s b; omega) (by omega) (by omega) e2
                exact cF g2.1 (fC_tr g1.2 g2.2)
              · have g1 := sM_f h e1
                have hba := h.1.1 a ha
                have hbb := h.1.1 b hb
                obtain ⟨⟨a1, a2⟩, b1, b2⟩ := kM w1 g1.1
                rw [z_cl' (show a < 2 ^ 31 by omega), z_cl' (show b < 2 ^ 31 by omega), a1, a2, b1, b2]
                have t1 : ¬ nI (s_n s a) < nI i := fun q => by have := (z_lt (by omega) (by omega)).mp q; omega
                have t2 : ¬ nI (s_n s b) < nI j := fun q => by have := (z_lt (by omega) (by omega)).mp q; omega
                have t3 : ¬ nI (s_n s a) - nI i < nI n := fun q => by rw [pk_sub (by omega)] at q; have := (z_lt (by omega) (by omega)).mp q; omega
                have t4 : nI n ≤ nI (s_n s b) - nI j := by rw [pk_sub (by omega), z_le (by omega) (by omega)]; omega
                have n9a : ¬ nI (s_r s a - 1) = -9 := fun q => z_n9 (by omega) q.symm
                have n9b : ¬ nI (s_r s b - 1) = -9 := fun q => z_n9 (by omega) q.symm
                refine ⟨fun _ => ⟨fun _ => ⟨hina, fun c => absurd c n9a, fun _ => ⟨hinb, fun c => absurd c n9b, fun _ => ⟨hina, hinb, fun _ => ⟨fun c => absurd c (z_neg (by omega)), fun _ => ⟨fun c => absurd c (z_neg (by omega)), fun _ => ⟨fun c => absurd c (z_neg (by omega)), fun _ => ⟨hina, fun c => absurd c t1, fun _ => ⟨hinb, fun c => absurd c t2, fun _ => ⟨hina, fun c => absurd c t3, fun _ => ⟨hinb, fun _ => ⟨fun cF => ?_, fun cB => ?_⟩, fun c => absurd t4 c⟩⟩⟩⟩⟩⟩⟩, fun c => absurd hl c⟩⟩⟩, fun c => absurd hp2 c⟩, fun c => absurd hp c⟩
                · have hji := (z_le (by omega) (by omega)).mp cF
                  refine L_copyF (f := w1 69) (by omega) (by omega) (fun u hu => by omega) n 0 w1 (Nat.zero_add _) (fun q => ?_) (fun w' hf hv => ?_)
                  · unfold va_cpy; rw [if_neg (by omega)]
                  · have g2 := M_copy g1.1 ha hb (by show 0 < s_r s b; omega) (by omega) (by omega) hf hv
                    exact mF g2.1 (fM_tr g1.2 g2.2)
                · have hji : ¬ j ≤ i := fun q => cB ((z_le (by omega) (by omega)).mpr q)
                  refine L_copyB (f := w1 69) (by omega) (by omega) (fun u hu => by omega) n 0 w1 (Nat.zero_add _) (fun q => ?_) (fun w' hf hv => ?_)
                  · unfold vBk; rw [if_neg (by omega)]
                  · have g2 := M_copy g1.1 ha hb (by show 0 < s_r s b; omega) (by omega) (by omega) hf hv
                    exact mF g2.1 (fM_tr g1.2 g2.2)
            · refine ⟨(-13), uF s 3, fun w h => G_Vp_copy_0 (fun w1 e1 => ?_), fun w h => G_Md_copy_0 (fun w1 e1 => ?_)⟩
              · have g1 := sC_f h e1
                have hba := h.1.1 a ha
                have hbb := h.1.1 b hb
                obtain ⟨⟨a1, a2, a3⟩, b1, b2, b3⟩ := kC w1 g1.1
                have fin : ∀ w2, w2 = x_set w1 1 8 3 → (xI (-13) = xI (-13) ∧ sC (uF s 3) w2 ∧ fC w w2) := fun w2 e2 => ⟨rfl, (sC_f g1.1 e2).1, fC_tr g1.2 (sC_f g1.1 e2).2⟩
                rw [z_ad ha, z_ad hb, a1, a2, a3, b1, b2, b3]
                exact ⟨fun _ => ⟨fun _ => ⟨hina, hinb, fun c => absurd c n_10, fun _ => ⟨fun c => absurd c n_10, fun _ => ⟨fun _ => ⟨fun c1 => ⟨fun c2 => absurd ((pCp_hc hba.2 hbb.2).mpr ⟨c1, c2⟩) hc, fun _ => fin⟩, fun _ => fin⟩, fun c => absurd hl c⟩⟩⟩, fun c => absurd hp2 c⟩, fun c => absurd hp c⟩
              · have g1 := sM_f h e1
                have hba := h.1.1 a ha
                have hbb := h.1.1 b hb
                obtain ⟨⟨a1, a2⟩, b1, b2⟩ := kM w1 g1.1
                have fin : ∀ w2, w2 = x_set w1 2 0 3 → (xI (-13) = xI (-13) ∧ sM (uF s 3) w2 ∧ fM w w2) := fun w2 e2 => ⟨rfl, (sM_f g1.1 e2).1, fM_tr g1.2 (sM_f g1.1 e2).2⟩
                rw [z_cl' (show a < 2 ^ 31 by omega), z_cl' (show b < 2 ^ 31 by omega), a1, a2, b1, b2]
                have n9a : ¬ nI (s_r s a - 1) = -9 := fun q => z_n9 (by omega) q.symm
                have n9b : ¬ nI (s_r s b - 1) = -9 := fun q => z_n9 (by omega) q.symm
                refine ⟨fun _ => ⟨fun _ => ⟨hina, fun c => absurd c n9a, fun _ => ⟨hinb, fun c => absurd c n9b, fun _ => ⟨hina, hinb, fun _ => ⟨fun _ => fin, fun c1 => ⟨fun _ => fin, fun c2 => ⟨fun _ => fin, fun c3 => ⟨hina, fun _ => fin, fun c4 => ⟨hinb, fun _ => fin, fun c5 => ⟨hina, fun _ => fin, fun c6 => ⟨hinb, fun c7 => absurd ?_ hc, fun _ => fin⟩⟩⟩⟩⟩⟩⟩, fun c => absurd hl c⟩⟩⟩, fun c => absurd hp2 c⟩, fun c => absurd hp c⟩
                rw [fa_lt, e_l0] at c1 c2 c3
                rw [fa_lt, nI_toInt (by omega)] at c4 c5
                rw [fa_lt, z_sub_toInt hba.2 (by omega) (by omega)] at c6
                rw [fa_le, z_sub_toInt hbb.2 (by omega) (by omega)] at c7
                exact ⟨by omega, by omega, by omega, by omega, by omega⟩
          · refine ⟨(-12), uF s 2, fun w h => G_Vp_copy_0 (fun w1 e1 => ?_), fun w h => G_Md_copy_0 (fun w1 e1 => ?_)⟩
            · have g1 := sC_f h e1
              obtain ⟨⟨a1, a2, a3⟩, b1, b2, b3⟩ := kC w1 g1.1
              rw [z_ad ha, z_ad hb, a1, a2, a3, b1, b2, b3]
              exact ⟨fun _ => ⟨fun _ => ⟨hina, hinb, fun c => absurd c n_10, fun _ => ⟨fun c => absurd c n_10, fun _ => ⟨fun c => absurd c hl, fun _ w2 e2 => cF (sC_f g1.1 e2).1 (fC_tr g1.2 (sC_f g1.1 e2).2)⟩⟩⟩, fun c => absurd hp2 c⟩, fun c => absurd hp c⟩
            · have g1 := sM_f h e1
              have hba := h.1.1 a ha
              have hbb := h.1.1 b hb
              obtain ⟨⟨a1, a2⟩, b1, b2⟩ := kM w1 g1.1
              rw [z_cl' (show a < 2 ^ 31 by omega), z_cl' (show b < 2 ^ 31 by omega), a1, a2, b1, b2]
              have n9a : ¬ nI (s_r s a - 1) = -9 := fun q => z_n9 (by omega) q.symm
              have n9b : ¬ nI (s_r s b - 1) = -9 := fun q => z_n9 (by omega) q.symm
              exact ⟨fun _ => ⟨fun _ => ⟨hina, fun c => absurd c n9a, fun _ => ⟨hinb, fun c => absurd c n9b, fun _ => ⟨hina, hinb, fun c => absurd c hl, fun _ w2 e2 => mF (sM_f g1.1 e2).1 (fM_tr g1.2 (sM_f g1.1 e2).2)⟩⟩⟩, fun c => absurd hp2 c⟩, fun c => absurd hp c⟩
    · exact ⟨(-1), uF s 0, fun w h => G_Vp_copy_0 (fun w1 e1 => ⟨fun _ => ⟨fun c => absurd c hp2, fun _ => cF (sC_f h e1).1 (sC_f h e1).2⟩, fun c => absurd hp c⟩), fun w h => G_Md_copy_0 (fun w1 e1 => ⟨fun _ => ⟨fun c => absurd c hp2, fun _ => mF (sM_f h e1).1 (sM_f h e1).2⟩, fun c => absurd hp c⟩)⟩
  · exact ⟨(-1), uF s 0, fun w h => G_Vp_copy_0 (fun w1 e1 => ⟨fun c => absurd c hp, fun _ => cF (sC_f h e1).1 (sC_f h e1).2⟩), fun w h => G_Md_copy_0 (fun w1 e1 => ⟨fun c => absurd c hp, fun _ => mF (sM_f h e1).1 (sM_f h e1).2⟩)⟩

