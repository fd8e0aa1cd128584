/-! THE LAW: its loop, call by call -/
theorem lg_self (x : Int64) : lg_cmp x x = 0 := by
  unfold lg_cmp
  rw [if_neg (show ¬ x > x from Int64.lt_irrefl), if_pos rfl]
set_option maxRecDepth 100000 in
theorem G_Lw_law_18 {d : Nat} {x3 : Int32} {w : xWd} {Q : xMV → xWd → Prop} (h : (((w 4 0) - 6 < x3 → Q (xI 1) w) ∧ (¬ ((w 4 0) - 6 < x3) → (vp_in x3 (w 4 0).toNatClampNeg ∧ (((w 0 x3.toNatClampNeg) &&& 31 = 0 → xWp (d + 7) m_Lw_law 160 [xA 51 0, xA 6 1, xA 7 2, xI x3] [] w Q) ∧ (¬ ((w 0 x3.toNatClampNeg) &&& 31 = 0) → (((w 0 x3.toNatClampNeg) &&& 31 = 1 → xWp (d + 7) m_Lw_law 213 [xA 51 0, xA 6 1, xA 7 2, xI x3] [] w Q) ∧ (¬ ((w 0 x3.toNatClampNeg) &&& 31 = 1) → (((w 0 x3.toNatClampNeg) &&& 31 = 2 → xWp (d + 7) m_Lw_law 246 [xA 51 0, xA 6 1, xA 7 2, xI x3] [] w Q) ∧ (¬ ((w 0 x3.toNatClampNeg) &&& 31 = 2) → (((w 0 x3.toNatClampNeg) &&& 31 = 3 → xWp (d + 7) m_Lw_law 279 [xA 51 0, xA 6 1, xA 7 2, xI x3] [] w Q) ∧ (¬ ((w 0 x3.toNatClampNeg) &&& 31 = 3) → (((w 0 x3.toNatClampNeg) &&& 31 = 4 → xWp (d + 7) m_Lw_law 322 [xA 51 0, xA 6 1, xA 7 2, xI x3] [] w Q) ∧ (¬ ((w 0 x3.toNatClampNeg) &&& 31 = 4) → (((w 0 x3.toNatClampNeg) &&& 31 = 5 → xWp (d + 7) m_Lw_law 375 [xA 51 0, xA 6 1, xA 7 2, xI x3] [] w Q) ∧ (¬ ((w 0 x3.toNatClampNeg) &&& 31 = 5) → (((w 0 x3.toNatClampNeg) &&& 31 = 6 → xWp (d + 7) m_Lw_law 388 [xA 51 0, xA 6 1, xA 7 2, xI x3] [] w Q) ∧ (¬ ((w 0 x3.toNatClampNeg) &&& 31 = 6) → (((w 0 x3.toNatClampNeg) &&& 31 = 7 → xWp (d + 7) m_Lw_law 451 [xA 51 0, xA 6 1, xA 7 2, xI x3] [] w Q) ∧ (¬ ((w 0 x3.toNatClampNeg) &&& 31 = 7) → (((w 0 x3.toNatClampNeg) &&& 31 = 8 → xWp (d + 7) m_Lw_law 484 [xA 51 0, xA 6 1, xA 7 2, xI x3] [] w Q) ∧ (¬ ((w 0 x3.toNatClampNeg) &&& 31 = 8) → (((w 0 x3.toNatClampNeg) &&& 31 = 9 → xWp (d + 7) m_Lw_law 507 [xA 51 0, xA 6 1, xA 7 2, xI x3] [] w Q) ∧ (¬ ((w 0 x3.toNatClampNeg) &&& 31 = 9) → (((w 0 x3.toNatClampNeg) &&& 31 = 10 → xWp (d + 7) m_Lw_law 540 [xA 51 0, xA 6 1, xA 7 2, xI x3] [] w Q) ∧ (¬ ((w 0 x3.toNatClampNeg) &&& 31 = 10) → (((w 0 x3.toNatClampNeg) &&& 31 = 11 → xWp (d + 7) m_Lw_law 573 [xA 51 0, xA 6 1, xA 7 2, xI x3] [] w Q) ∧ (¬ ((w 0 x3.toNatClampNeg) &&& 31 = 11) → (((w 0 x3.toNatClampNeg) &&& 31 = 12 → xWp (d + 7) m_Lw_law 636 [xA 51 0, xA 6 1, xA 7 2, xI x3] [] w Q) ∧ (¬ ((w 0 x3.toNatClampNeg) &&& 31 = 12) → (((w 0 x3.toNatClampNeg) &&& 31 = 13 → xWp (d + 7) m_Lw_law 669 [xA 51 0, xA 6 1, xA 7 2, xI x3] [] w Q) ∧ (¬ ((w 0 x3.toNatClampNeg) &&& 31 = 13) → (((w 0 x3.toNatClampNeg) &&& 31 = 14 → xWp (d + 7) m_Lw_law 692 [xA 51 0, xA 6 1, xA 7 2, xI x3] [] w Q) ∧ (¬ ((w 0 x3.toNatClampNeg) &&& 31 = 14) → (((w 0 x3.toNatClampNeg) &&& 31 = 15 → xWp (d + 7) m_Lw_law 715 [xA 51 0, xA 6 1, xA 7 2, xI x3] [] w Q) ∧ (¬ ((w 0 x3.toNatClampNeg) &&& 31 = 15) → (((w 0 x3.toNatClampNeg) &&& 31 = 16 → xWp (d + 7) m_Lw_law 738 [xA 51 0, xA 6 1, xA 7 2, xI x3] [] w Q) ∧ (¬ ((w 0 x3.toNatClampNeg) &&& 31 = 16) → (((w 0 x3.toNatClampNeg) &&& 31 = 17 → xWp (d + 7) m_Lw_law 762 [xA 51 0, xA 6 1, xA 7 2, xI x3] [] w Q) ∧ (¬ ((w 0 x3.toNatClampNeg) &&& 31 = 17) → (((w 0 x3.toNatClampNeg) &&& 31 = 18 → xWp (d + 7) m_Lw_law 805 [xA 51 0, xA 6 1, xA 7 2, xI x3] [] w Q) ∧ (¬ ((w 0 x3.toNatClampNeg) &&& 31 = 18) → (((w 0 x3.toNatClampNeg) &&& 31 = 19 → xWp (d + 7) m_Lw_law 828 [xA 51 0, xA 6 1, xA 7 2, xI x3] [] w Q) ∧ (¬ ((w 0 x3.toNatClampNeg) &&& 31 = 19) → (((w 0 x3.toNatClampNeg) &&& 31 = 20 → xWp (d + 7) m_Lw_law 871 [xA 51 0, xA 6 1, xA 7 2, xI x3] [] w Q) ∧ (¬ ((w 0 x3.toNatClampNeg) &&& 31 = 20) → (((w 0 x3.toNatClampNeg) &&& 31 = 21 → xWp (d + 7) m_Lw_law 915 [xA 51 0, xA 6 1, xA 7 2, xI x3] [] w Q) ∧ (¬ ((w 0 x3.toNatClampNeg) &&& 31 = 21) → (((w 0 x3.toNatClampNeg) &&& 31 = 22 → xWp (d + 7) m_Lw_law 978 [xA 51 0, xA 6 1, xA 7 2, xI x3] [] w Q) ∧ (¬ ((w 0 x3.toNatClampNeg) &&& 31 = 22) → (((w 0 x3.toNatClampNeg) &&& 31 = 23 → xWp (d + 7) m_Lw_law 1001 [xA 51 0, xA 6 1, xA 7 2, xI x3] [] w Q) ∧ (¬ ((w 0 x3.toNatClampNeg) &&& 31 = 23) → (((w 0 x3.toNatClampNeg) &&& 31 = 24 → xWp (d + 7) m_Lw_law 1024 [xA 51 0, xA 6 1, xA 7 2, xI x3] [] w Q) ∧ (¬ ((w 0 x3.toNatClampNeg) &&& 31 = 24) → (((w 0 x3.toNatClampNeg) &&& 31 = 25 → xWp (d + 7) m_Lw_law 1057 [xA 51 0, xA 6 1, xA 7 2, xI x3] [] w Q) ∧ (¬ ((w 0 x3.toNatClampNeg) &&& 31 = 25) → (((w 0 x3.toNatClampNeg) &&& 31 = 26 → xWp (d + 7) m_Lw_law 1070 [xA 51 0, xA 6 1, xA 7 2, xI x3] [] w Q) ∧ (¬ ((w 0 x3.toNatClampNeg) &&& 31 = 26) → (((w 0 x3.toNatClampNeg) &&& 31 = 27 → xWp (d + 7) m_Lw_law 1083 [xA 51 0, xA 6 1, xA 7 2, xI x3] [] w Q) ∧ (¬ ((w 0 x3.toNatClampNeg) &&& 31 = 27) → xWp (d + 7) m_Lw_law 1106 [xA 51 0, xA 6 1, xA 7 2, xI x3] [] w Q)))))))))))))))))))))))))))))))))))))))))))))))))))))))))))) : xWp (d + 7) m_Lw_law 18 [xA 51 0, xA 6 1, xA 7 2, xI x3] [] w Q := by
  refine x_goN 2 (pc' := 20) (ls' := [xA 51 0, xA 6 1, xA 7 2, xI x3]) (st' := [xA 51 0, xI x3]) (w' := w) rfl ?_
  refine x_ob (P := 0 = 0) (pc' := 21) (ls' := [xA 51 0, xA 6 1, xA 7 2, xI x3]) (st' := [xI (w 4 0), xI x3]) (w' := w) rfl rfl ?_
  refine x_goN 3 (pc' := if (w 4 0) - 6 < x3 then 1112 else 27) (ls' := [xA 51 0, xA 6 1, xA 7 2, xI x3]) (st' := []) (w' := w) rfl ?_
  refine x_br (fun c1 => ?_) (fun c1 => ?_)
  · skip
    refine x_goN 1 (pc' := 1113) (ls' := [xA 51 0, xA 6 1, xA 7 2, xI x3]) (st' := [xI 1]) (w' := w) rfl ?_
    exact x_ret (P := (1 : Int32) = 0 ∨ (1 : Int32) = 1) rfl (by decide) (h.1 c1)
  · skip
    refine x_goN 2 (pc' := 29) (ls' := [xA 51 0, xA 6 1, xA 7 2, xI x3]) (st' := [xI x3, xA 51 0]) (w' := w) rfl ?_
    refine x_ob (P := 0 = 0 ∧ vp_in x3 (w 4 0).toNatClampNeg) (pc' := 30) (ls' := [xA 51 0, xA 6 1, xA 7 2, xI x3]) (st' := [xI (w 0 x3.toNatClampNeg)]) (w' := w) rfl ⟨rfl, (h.2 c1).1⟩ ?_
    refine x_goN 3 (pc' := if (w 0 x3.toNatClampNeg) &&& 31 = 0 then 160 else if (w 0 x3.toNatClampNeg) &&& 31 = 1 then 213 else if (w 0 x3.toNatClampNeg) &&& 31 = 2 then 246 else if (w 0 x3.toNatClampNeg) &&& 31 = 3 then 279 else if (w 0 x3.toNatClampNeg) &&& 31 = 4 then 322 else if (w 0 x3.toNatClampNeg) &&& 31 = 5 then 375 else if (w 0 x3.toNatClampNeg) &&& 31 = 6 then 388 else if (w 0 x3.toNatClampNeg) &&& 31 = 7 then 451 else if (w 0 x3.toNatClampNeg) &&& 31 = 8 then 484 else if (w 0 x3.toNatClampNeg) &&& 31 = 9 then 507 else if (w 0 x3.toNatClampNeg) &&& 31 = 10 then 540 else if (w 0 x3.toNatClampNeg) &&& 31 = 11 then 573 else if (w 0 x3.toNatClampNeg) &&& 31 = 12 then 636 else if (w 0 x3.toNatClampNeg) &&& 31 = 13 then 669 else if (w 0 x3.toNatClampNeg) &&& 31 = 14 then 692 else if (w 0 x3.toNatClampNeg) &&& 31 = 15 then 715 else if (w 0 x3.toNatClampNeg) &&& 31 = 16 then 738 else if (w 0 x3.toNatClampNeg) &&& 31 = 17 then 762 else if (w 0 x3.toNatClampNeg) &&& 31 = 18 then 805 else if (w 0 x3.toNatClampNeg) &&& 31 = 19 then 828 else if (w 0 x3.toNatClampNeg) &&& 31 = 20 then 871 else if (w 0 x3.toNatClampNeg) &&& 31 = 21 then 915 else if (w 0 x3.toNatClampNeg) &&& 31 = 22 then 978 else if (w 0 x3.toNatClampNeg) &&& 31 = 23 then 1001 else if (w 0 x3.toNatClampNeg) &&& 31 = 24 then 1024 else if (w 0 x3.toNatClampNeg) &&& 31 = 25 then 1057 else if (w 0 x3.toNatClampNeg) &&& 31 = 26 then 1070 else if (w 0 x3.toNatClampNeg) &&& 31 = 27 then 1083 else 1106) (ls' := [xA 51 0, xA 6 1, xA 7 2, xI x3]) (st' := []) (w' := w) rfl ?_
    refine x_br (fun c2 => ?_) (fun c2 => ?_)
    · skip
      exact ((h.2 c1).2.1 c2)
    · skip
      refine x_br (fun c3 => ?_) (fun c3 => ?_)
      · skip
        exact (((h.2 c1).2.2 c2).1 c3)
      · skip
        refine x_br (fun c4 => ?_) (fun c4 => ?_)
        · skip
          exact ((((h.2 c1).2.2 c2).2 c3).1 c4)
        · skip
          refine x_br (fun c5 => ?_) (fun c5 => ?_)
          · skip
            exact (((((h.2 c1).2.2 c2).2 c3).2 c4).1 c5)
          · skip
            refine x_br (fun c6 => ?_) (fun c6 => ?_)
            · skip
              exact ((((((h.2 c1).2.2 c2).2 c3).2 c4).2 c5).1 c6)
            · skip
              refine x_br (fun c7 => ?_) (fun c7 => ?_)
              · skip
                exact (((((((h.2 c1).2.2 c2).2 c3).2 c4).2 c5).2 c6).1 c7)
              · skip
                refine x_br (fun c8 => ?_) (fun c8 => ?_)
                · skip
                  exact ((((((((h.2 c1).2.2 c2).2 c3).2 c4).2 c5).2 c6).2 c7).1 c8)
                · skip
                  refine x_br (fun c9 => ?_) (fun c9 => ?_)
                  · skip
                    exact (((((((((h.2 c1).2.2 c2).2 c3).2 c4).2 c5).2 c6).2 c7).2 c8).1 c9)
                  · skip
                    refine x_br (fun c10 => ?_) (fun c10 => ?_)
                    · skip
                      exact ((((((((((h.2 c1).2.2 c2).2 c3).2 c4).2 c5).2 c6).2 c7).2 c8).2 c9).1 c10)
                    · skip
                      refine x_br (fun c11 => ?_) (fun c11 => ?_)
                      · skip
                        exact (((((((((((h.2 c1).2.2 c2).2 c3).2 c4).2 c5).2 c6).2 c7).2 c8).2 c9).2 c10).1 c11)
                      · skip
                        refine x_br (fun c12 => ?_) (fun c12 => ?_)
                        · skip
                          exact ((((((((((((h.2 c1).2.2 c2).2 c3).2 c4).2 c5).2 c6).2 c7).2 c8).2 c9).2 c10).2 c11).1 c12)
                        · skip
                          refine x_br (fun c13 => ?_) (fun c13 => ?_)
                          · skip
                            exact (((((((((((((h.2 c1).2.2 c2).2 c3).2 c4).2 c5).2 c6).2 c7).2 c8).2 c9).2 c10).2 c11).2 c12).1 c13)
                          · skip
                            refine x_br (fun c14 => ?_) (fun c14 => ?_)
                            · skip
                              exact ((((((((((((((h.2 c1).2.2 c2).2 c3).2 c4).2 c5).2 c6).2 c7).2 c8).2 c9).2 c10).2 c11).2 c12).2 c13).1 c14)
                            · skip
                              refine x_br (fun c15 => ?_) (fun c15 => ?_)
                              · skip
                                exact (((((((((((((((h.2 c1).2.2 c2).2 c3).2 c4).2 c5).2 c6).2 c7).2 c8).2 c9).2 c10).2 c11).2 c12).2 c13).2 c14).1 c15)
                              · skip
                                refine x_br (fun c16 => ?_) (fun c16 => ?_)
                                · skip
                                  exact ((((((((((((((((h.2 c1).2.2 c2).2 c3).2 c4).2 c5).2 c6).2 c7).2 c8).2 c9).2 c10).2 c11).2 c12).2 c13).2 c14).2 c15).1 c16)
                                · skip
                                  refine x_br (fun c17 => ?_) (fun c17 => ?_)
                                  · skip
                                    exact (((((((((((((((((h.2 c1).2.2 c2).2 c3).2 c4).2 c5).2 c6).2 c7).2 c8).2 c9).2 c10).2 c11).2 c12).2 c13).2 c14).2 c15).2 c16).1 c17)
                                  · skip
                                    refine x_br (fun c18 => ?_) (fun c18 => ?_)
                                    · skip
                                      exact ((((((((((((((((((h.2 c1).2.2 c2).2 c3).2 c4).2 c5).2 c6).2 c7).2 c8).2 c9).2 c10).2 c11).2 c12).2 c13).2 c14).2 c15).2 c16).2 c17).1 c18)
                                    · skip
                                      refine x_br (fun c19 => ?_) (fun c19 => ?_)
                                      · skip
                                        exact (((((((((((((((((((h.2 c1).2.2 c2).2 c3).2 c4).2 c5).2 c6).2 c7).2 c8).2 c9).2 c10).2 c11).2 c12).2 c13).2 c14).2 c15).2 c16).2 c17).2 c18).1 c19)
                                      · skip
                                        refine x_br (fun c20 => ?_) (fun c20 => ?_)
                                        · skip
                                          exact ((((((((((((((((((((h.2 c1).2.2 c2).2 c3).2 c4).2 c5).2 c6).2 c7).2 c8).2 c9).2 c10).2 c11).2 c12).2 c13).2 c14).2 c15).2 c16).2 c17).2 c18).2 c19).1 c20)
                                        · skip
                                          refine x_br (fun c21 => ?_) (fun c21 => ?_)
                                          · skip
                                            exact (((((((((((((((((((((h.2 c1).2.2 c2).2 c3).2 c4).2 c5).2 c6).2 c7).2 c8).2 c9).2 c10).2 c11).2 c12).2 c13).2 c14).2 c15).2 c16).2 c17).2 c18).2 c19).2 c20).1 c21)
                                          · skip
                                            refine x_br (fun c22 => ?_) (fun c22 => ?_)
                                            · skip
                                              exact ((((((((((((((((((((((h.2 c1).2.2 c2).2 c3).2 c4).2 c5).2 c6).2 c7).2 c8).2 c9).2 c10).2 c11).2 c12).2 c13).2 c14).2 c15).2 c16).2 c17).2 c18).2 c19).2 c20).2 c21).1 c22)
                                            · skip
                                              refine x_br (fun c23 => ?_) (fun c23 => ?_)
                                              · skip
                                                exact (((((((((((((((((((((((h.2 c1).2.2 c2).2 c3).2 c4).2 c5).2 c6).2 c7).2 c8).2 c9).2 c10).2 c11).2 c12).2 c13).2 c14).2 c15).2 c16).2 c17).2 c18).2 c19).2 c20).2 c21).2 c22).1 c23)
                                              · skip
                                                refine x_br (fun c24 => ?_) (fun c24 => ?_)
                                                · skip
                                                  exact ((((((((((((((((((((((((h.2 c1).2.2 c2).2 c3).2 c4).2 c5).2 c6).2 c7).2 c8).2 c9).2 c10).2 c11).2 c12).2 c13).2 c14).2 c15).2 c16).2 c17).2 c18).2 c19).2 c20).2 c21).2 c22).2 c23).1 c24)
                                                · skip
                                                  refine x_br (fun c25 => ?_) (fun c25 => ?_)
                                                  · skip
                                                    exact (((((((((((((((((((((((((h.2 c1).2.2 c2).2 c3).2 c4).2 c5).2 c6).2 c7).2 c8).2 c9).2 c10).2 c11).2 c12).2 c13).2 c14).2 c15).2 c16).2 c17).2 c18).2 c19).2 c20).2 c21).2 c22).2 c23).2 c24).1 c25)
                                                  · skip
                                                    refine x_br (fun c26 => ?_) (fun c26 => ?_)
                                                    · skip
                                                      exact ((((((((((((((((((((((((((h.2 c1).2.2 c2).2 c3).2 c4).2 c5).2 c6).2 c7).2 c8).2 c9).2 c10).2 c11).2 c12).2 c13).2 c14).2 c15).2 c16).2 c17).2 c18).2 c19).2 c20).2 c21).2 c22).2 c23).2 c24).2 c25).1 c26)
                                                    · skip
                                                      refine x_br (fun c27 => ?_) (fun c27 => ?_)
                                                      · skip
                                                        exact (((((((((((((((((((((((((((h.2 c1).2.2 c2).2 c3).2 c4).2 c5).2 c6).2 c7).2 c8).2 c9).2 c10).2 c11).2 c12).2 c13).2 c14).2 c15).2 c16).2 c17).2 c18).2 c19).2 c20).2 c21).2 c22).2 c23).2 c24).2 c25).2 c26).1 c27)
                                                      · skip
                                                        refine x_br (fun c28 => ?_) (fun c28 => ?_)
                                                        · skip
                                                          exact ((((((((((((((((((((((((((((h.2 c1).2.2 c2).2 c3).2 c4).2 c5).2 c6).2 c7).2 c8).2 c9).2 c10).2 c11).2 c12).2 c13).2 c14).2 c15).2 c16).2 c17).2 c18).2 c19).2 c20).2 c21).2 c22).2 c23).2 c24).2 c25).2 c26).2 c27).1 c28)
                                                        · skip
                                                          refine x_br (fun c29 => ?_) (fun c29 => ?_)
                                                          · skip
                                                            exact (((((((((((((((((((((((((((((h.2 c1).2.2 c2).2 c3).2 c4).2 c5).2 c6).2 c7).2 c8).2 c9).2 c10).2 c11).2 c12).2 c13).2 c14).2 c15).2 c16).2 c17).2 c18).2 c19).2 c20).2 c21).2 c22).2 c23).2 c24).2 c25).2 c26).2 c27).2 c28).1 c29)
                                                          · skip
                                                            exact (((((((((((((((((((((((((((((h.2 c1).2.2 c2).2 c3).2 c4).2 c5).2 c6).2 c7).2 c8).2 c9).2 c10).2 c11).2 c12).2 c13).2 c14).2 c15).2 c16).2 c17).2 c18).2 c19).2 c20).2 c21).2 c22).2 c23).2 c24).2 c25).2 c26).2 c27).2 c28).2 c29)
set_option maxRecDepth 100000 in
theorem G_Lw_law_160 {d : Nat} {x3 : Int32} {w : xWd} {Q : xMV → xWd → Prop} (h : (vp_in (x3 + 1) (w 4 0).toNatClampNeg ∧ (vp_in (x3 + 2) (w 4 0).toNatClampNeg ∧ (vp_in (x3 + 3) (w 4 0).toNatClampNeg ∧ (vp_in (x3 + 4) (w 4 0).toNatClampNeg ∧ xWp (d + 6) m_Vp_lines 0 [xA 6 1, xI (w 0 (x3 + 1).toNatClampNeg), xI (w 0 (x3 + 2).toNatClampNeg), xI (w 0 (x3 + 3).toNatClampNeg), xI (w 0 (x3 + 4).toNatClampNeg), xU, xU] [] w (fun a w' => xWp (d + 7) m_Lw_law 184 [xA 51 0, xA 6 1, xA 7 2, xI x3] (x_pu a []) w' Q)))))) : xWp (d + 7) m_Lw_law 160 [xA 51 0, xA 6 1, xA 7 2, xI x3] [] w Q := by
  refine x_goN 5 (pc' := 165) (ls' := [xA 51 0, xA 6 1, xA 7 2, xI x3]) (st' := [xI (x3 + 1), xA 51 0, xA 6 1]) (w' := w) rfl ?_
  refine x_ob (P := 0 = 0 ∧ vp_in (x3 + 1) (w 4 0).toNatClampNeg) (pc' := 166) (ls' := [xA 51 0, xA 6 1, xA 7 2, xI x3]) (st' := [xI (w 0 (x3 + 1).toNatClampNeg), xA 6 1]) (w' := w) rfl ⟨rfl, h.1⟩ ?_
  refine x_goN 4 (pc' := 170) (ls' := [xA 51 0, xA 6 1, xA 7 2, xI x3]) (st' := [xI (x3 + 2), xA 51 0, xI (w 0 (x3 + 1).toNatClampNeg), xA 6 1]) (w' := w) rfl ?_
  refine x_ob (P := 0 = 0 ∧ vp_in (x3 + 2) (w 4 0).toNatClampNeg) (pc' := 171) (ls' := [xA 51 0, xA 6 1, xA 7 2, xI x3]) (st' := [xI (w 0 (x3 + 2).toNatClampNeg), xI (w 0 (x3 + 1).toNatClampNeg), xA 6 1]) (w' := w) rfl ⟨rfl, h.2.1⟩ ?_
  refine x_goN 4 (pc' := 175) (ls' := [xA 51 0, xA 6 1, xA 7 2, xI x3]) (st' := [xI (x3 + 3), xA 51 0, xI (w 0 (x3 + 2).toNatClampNeg), xI (w 0 (x3 + 1).toNatClampNeg), xA 6 1]) (w' := w) rfl ?_
  refine x_ob (P := 0 = 0 ∧ vp_in (x3 + 3) (w 4 0).toNatClampNeg) (pc' := 176) (ls' := [xA 51 0, xA 6 1, xA 7 2, xI x3]) (st' := [xI (w 0 (x3 + 3).toNatClampNeg), xI (w 0 (x3 + 2).toNatClampNeg), xI (w 0 (x3 + 1).toNatClampNeg), xA 6 1]) (w' := w) rfl ⟨rfl, h.2.2.1⟩ ?_
  refine x_goN 4 (pc' := 180) (ls' := [xA 51 0, xA 6 1, xA 7 2, xI x3]) (st' := [xI (x3 + 4), xA 51 0, xI (w 0 (x3 + 3).toNatClampNeg), xI (w 0 (x3 + 2).toNatClampNeg), xI (w 0 (x3 + 1).toNatClampNeg), xA 6 1]) (w' := w) rfl ?_
  refine x_ob (P := 0 = 0 ∧ vp_in (x3 + 4) (w 4 0).toNatClampNeg) (pc' := 181) (ls' := [xA 51 0, xA 6 1, xA 7 2, xI x3]) (st' := [xI (w 0 (x3 + 4).toNatClampNeg), xI (w 0 (x3 + 3).toNatClampNeg), xI (w 0 (x3 + 2).toNatClampNeg), xI (w 0 (x3 + 1).toNatClampNeg), xA 6 1]) (w' := w) rfl ⟨rfl, h.2.2.2.1⟩ ?_
  refine x_call (y := m_Vp_lines) (as := [xA 6 1, xI (w 0 (x3 + 1).toNatClampNeg), xI (w 0 (x3 + 2).toNatClampNeg), xI (w 0 (x3 + 3).toNatClampNeg), xI (w 0 (x3 + 4).toNatClampNeg)]) (rst := []) rfl [xA 6 1, xI (w 0 (x3 + 1).toNatClampNeg), xI (w 0 (x3 + 2).toNatClampNeg), xI (w 0 (x3 + 3).toNatClampNeg), xI (w 0 (x3 + 4).toNatClampNeg), xU, xU] rfl ?_
  exact h.2.2.2.2
set_option maxRecDepth 100000 in
theorem G_Lw_law_184 {d : Nat} {x3 : Int32} {s0 : Int32} {w : xWd} {Q : xMV → xWd → Prop} (h : (vp_in (x3 + 1) (w 4 0).toNatClampNeg ∧ (vp_in (x3 + 2) (w 4 0).toNatClampNeg ∧ (vp_in (x3 + 3) (w 4 0).toNatClampNeg ∧ (vp_in (x3 + 4) (w 4 0).toNatClampNeg ∧ xWp (d + 6) m_Md_lines 0 [xA 7 2, xI (w 0 (x3 + 1).toNatClampNeg), xI (w 0 (x3 + 2).toNatClampNeg), xI (w 0 (x3 + 3).toNatClampNeg), xI (w 0 (x3 + 4).toNatClampNeg), xU, xU, xU] [] w (fun a w' => xWp (d + 7) m_Lw_law 208 [xA 51 0, xA 6 1, xA 7 2, xI x3] (x_pu a [xI s0]) w' Q)))))) : xWp (d + 7) m_Lw_law 184 [xA 51 0, xA 6 1, xA 7 2, xI x3] [xI s0] w Q := by
  refine x_goN 5 (pc' := 189) (ls' := [xA 51 0, xA 6 1, xA 7 2, xI x3]) (st' := [xI (x3 + 1), xA 51 0, xA 7 2, xI s0]) (w' := w) rfl ?_
  refine x_ob (P := 0 = 0 ∧ vp_in (x3 + 1) (w 4 0).toNatClampNeg) (pc' := 190) (ls' := [xA 51 0, xA 6 1, xA 7 2, xI x3]) (st' := [xI (w 0 (x3 + 1).toNatClampNeg), xA 7 2, xI s0]) (w' := w) rfl ⟨rfl, h.1⟩ ?_
  refine x_goN 4 (pc' := 194) (ls' := [xA 51 0, xA 6 1, xA 7 2, xI x3]) (st' := [xI (x3 + 2), xA 51 0, xI (w 0 (x3 + 1).toNatClampNeg), xA 7 2, xI s0]) (w' := w) rfl ?_
  refine x_ob (P := 0 = 0 ∧ vp_in (x3 + 2) (w 4 0).toNatClampNeg) (pc' := 195) (ls' := [xA 51 0, xA 6 1, xA 7 2, xI x3]) (st' := [xI (w 0 (x3 + 2).toNatClampNeg), xI (w 0 (x3 + 1).toNatClampNeg), xA 7 2, xI s0]) (w' := w) rfl ⟨rfl, h.2.1⟩ ?_
  refine x_goN 4 (pc' := 199) (ls' := [xA 51 0, xA 6 1, xA 7 2, xI x3]) (st' := [xI (x3 + 3), xA 51 0, xI (w 0 (x3 + 2).toNatClampNeg), xI (w 0 (x3 + 1).toNatClampNeg), xA 7 2, xI s0]) (w' := w) rfl ?_
  refine x_ob (P := 0 = 0 ∧ vp_in (x3 + 3) (w 4 0).toNatClampNeg) (pc' := 200) (ls' := [xA 51 0, xA 6 1, xA 7 2, xI x3]) (st' := [xI (w 0 (x3 + 3).toNatClampNeg), xI (w 0 (x3 + 2).toNatClampNeg), xI (w 0 (x3 + 1).toNatClampNeg), xA 7 2, xI s0]) (w' := w) rfl ⟨rfl, h.2.2.1⟩ ?_
  refine x_goN 4 (pc' := 204) (ls' := [xA 51 0, xA 6 1, xA 7 2, xI x3]) (st' := [xI (x3 + 4), xA 51 0, xI (w 0 (x3 + 3).toNatClampNeg), xI (w 0 (x3 + 2).toNatClampNeg), xI (w 0 (x3 + 1).toNatClampNeg), xA 7 2, xI s0]) (w' := w) rfl ?_
  refine x_ob (P := 0 = 0 ∧ vp_in (x3 + 4) (w 4 0).toNatClampNeg) (pc' := 205) (ls' := [xA 51 0, xA 6 1, xA 7 2, xI x3]) (st' := [xI (w 0 (x3 + 4).toNatClampNeg), xI (w 0 (x3 + 3).toNatClampNeg), xI (w 0 (x3 + 2).toNatClampNeg), xI (w 0 (x3 + 1).toNatClampNeg), xA 7 2, xI s0]) (w' := w) rfl ⟨rfl, h.2.2.2.1⟩ ?_
  refine x_call (y := m_Md_lines) (as := [xA 7 2, xI (w 0 (x3 + 1).toNatClampNeg), xI (w 0 (x3 + 2).toNatClampNeg), xI (w 0 (x3 + 3).toNatClampNeg), xI (w 0 (x3 + 4).toNatClampNeg)]) (rst := [xI s0]) rfl [xA 7 2, xI (w 0 (x3 + 1).toNatClampNeg), xI (w 0 (x3 + 2).toNatClampNeg), xI (w 0 (x3 + 3).toNatClampNeg), xI (w 0 (x3 + 4).toNatClampNeg), xU, xU, xU] rfl ?_
  exact h.2.2.2.2
set_option maxRecDepth 100000 in
theorem G_Lw_law_208 {d : Nat} {x3 : Int32} {s1 : Int32} {s0 : Int32} {w : xWd} {Q : xMV → xWd → Prop} (h : ((s0 = s1 → xWp (d + 7) m_Lw_law 1106 [xA 51 0, xA 6 1, xA 7 2, xI x3] [] w Q) ∧ (¬ (s0 = s1) → Q (xI 0) w))) : xWp (d + 7) m_Lw_law 208 [xA 51 0, xA 6 1, xA 7 2, xI x3] [xI s1, xI s0] w Q := by
  refine x_goN 1 (pc' := if s0 = s1 then 1106 else 211) (ls' := [xA 51 0, xA 6 1, xA 7 2, xI x3]) (st' := []) (w' := w) rfl ?_
  refine x_br (fun c1 => ?_) (fun c1 => ?_)
  · skip
    exact (h.1 c1)
  · skip
    refine x_goN 1 (pc' := 212) (ls' := [xA 51 0, xA 6 1, xA 7 2, xI x3]) (st' := [xI 0]) (w' := w) rfl ?_
    exact x_ret (P := (0 : Int32) = 0 ∨ (0 : Int32) = 1) rfl (by decide) (h.2 c1)
set_option maxRecDepth 100000 in
theorem G_Lw_law_213 {d : Nat} {x3 : Int32} {w : xWd} {Q : xMV → xWd → Prop} (h : (vp_in (x3 + 1) (w 4 0).toNatClampNeg ∧ (vp_in (x3 + 2) (w 4 0).toNatClampNeg ∧ xWp (d + 6) m_Vp_ofLine 0 [xA 6 1, xI (w 0 (x3 + 1).toNatClampNeg), xI (w 0 (x3 + 2).toNatClampNeg)] [] w (fun a w' => xWp (d + 7) m_Lw_law 227 [xA 51 0, xA 6 1, xA 7 2, xI x3] (x_pu a []) w' Q)))) : xWp (d + 7) m_Lw_law 213 [xA 51 0, xA 6 1, xA 7 2, xI x3] [] w Q := by
  refine x_goN 5 (pc' := 218) (ls' := [xA 51 0, xA 6 1, xA 7 2, xI x3]) (st' := [xI (x3 + 1), xA 51 0, xA 6 1]) (w' := w) rfl ?_
  refine x_ob (P := 0 = 0 ∧ vp_in (x3 + 1) (w 4 0).toNatClampNeg) (pc' := 219) (ls' := [xA 51 0, xA 6 1, xA 7 2, xI x3]) (st' := [xI (w 0 (x3 + 1).toNatClampNeg), xA 6 1]) (w' := w) rfl ⟨rfl, h.1⟩ ?_
  refine x_goN 4 (pc' := 223) (ls' := [xA 51 0, xA 6 1, xA 7 2, xI x3]) (st' := [xI (x3 + 2), xA 51 0, xI (w 0 (x3 + 1).toNatClampNeg), xA 6 1]) (w' := w) rfl ?_
  refine x_ob (P := 0 = 0 ∧ vp_in (x3 + 2) (w 4 0).toNatClampNeg) (pc' := 224) (ls' := [xA 51 0, xA 6 1, xA 7 2, xI x3]) (st' := [xI (w 0 (x3 + 2).toNatClampNeg), xI (w 0 (x3 + 1).toNatClampNeg), xA 6 1]) (w' := w) rfl ⟨rfl, h.2.1⟩ ?_
  refine x_call (y := m_Vp_ofLine) (as := [xA 6 1, xI (w 0 (x3 + 1).toNatClampNeg), xI (w 0 (x3 + 2).toNatClampNeg)]) (rst := []) rfl [xA 6 1, xI (w 0 (x3 + 1).toNatClampNeg), xI (w 0 (x3 + 2).toNatClampNeg)] rfl ?_
  exact h.2.2
set_option maxRecDepth 100000 in
theorem G_Lw_law_227 {d : Nat} {x3 : Int32} {s0 : Int32} {w : xWd} {Q : xMV → xWd → Prop} (h : (vp_in (x3 + 1) (w 4 0).toNatClampNeg ∧ (vp_in (x3 + 2) (w 4 0).toNatClampNeg ∧ xWp (d + 6) m_Md_ofLine 0 [xA 7 2, xI (w 0 (x3 + 1).toNatClampNeg), xI (w 0 (x3 + 2).toNatClampNeg)] [] w (fun a w' => xWp (d + 7) m_Lw_law 241 [xA 51 0, xA 6 1, xA 7 2, xI x3] (x_pu a [xI s0]) w' Q)))) : xWp (d + 7) m_Lw_law 227 [xA 51 0, xA 6 1, xA 7 2, xI x3] [xI s0] w Q := by
  refine x_goN 5 (pc' := 232) (ls' := [xA 51 0, xA 6 1, xA 7 2, xI x3]) (st' := [xI (x3 + 1), xA 51 0, xA 7 2, xI s0]) (w' := w) rfl ?_
  refine x_ob (P := 0 = 0 ∧ vp_in (x3 + 1) (w 4 0).toNatClampNeg) (pc' := 233) (ls' := [xA 51 0, xA 6 1, xA 7 2, xI x3]) (st' := [xI (w 0 (x3 + 1).toNatClampNeg), xA 7 2, xI s0]) (w' := w) rfl ⟨rfl, h.1⟩ ?_
  refine x_goN 4 (pc' := 237) (ls' := [xA 51 0, xA 6 1, xA 7 2, xI x3]) (st' := [xI (x3 + 2), xA 51 0, xI (w 0 (x3 + 1).toNatClampNeg), xA 7 2, xI s0]) (w' := w) rfl ?_
  refine x_ob (P := 0 = 0 ∧ vp_in (x3 + 2) (w 4 0).toNatClampNeg) (pc' := 238) (ls' := [xA 51 0, xA 6 1, xA 7 2, xI x3]) (st' := [xI (w 0 (x3 + 2).toNatClampNeg), xI (w 0 (x3 + 1).toNatClampNeg), xA 7 2, xI s0]) (w' := w) rfl ⟨rfl, h.2.1⟩ ?_
  refine x_call (y := m_Md_ofLine) (as := [xA 7 2, xI (w 0 (x3 + 1).toNatClampNeg), xI (w 0 (x3 + 2).toNatClampNeg)]) (rst := [xI s0]) rfl [xA 7 2, xI (w 0 (x3 + 1).toNatClampNeg), xI (w 0 (x3 + 2).toNatClampNeg)] rfl ?_
  exact h.2.2
set_option maxRecDepth 100000 in
theorem G_Lw_law_241 {d : Nat} {x3 : Int32} {s1 : Int32} {s0 : Int32} {w : xWd} {Q : xMV → xWd → Prop} (h : ((s0 = s1 → xWp (d + 7) m_Lw_law 1106 [xA 51 0, xA 6 1, xA 7 2, xI x3] [] w Q) ∧ (¬ (s0 = s1) → Q (xI 0) w))) : xWp (d + 7) m_Lw_law 241 [xA 51 0, xA 6 1, xA 7 2, xI x3] [xI s1, xI s0] w Q := by
  refine x_goN 1 (pc' := if s0 = s1 then 1106 else 244) (ls' := [xA 51 0, xA 6 1, xA 7 2, xI x3]) (st' := []) (w' := w) rfl ?_
  refine x_br (fun c1 => ?_) (fun c1 => ?_)
  · skip
    exact (h.1 c1)
  · skip
    refine x_goN 1 (pc' := 245) (ls' := [xA 51 0, xA 6 1, xA 7 2, xI x3]) (st' := [xI 0]) (w' := w) rfl ?_
    exact x_ret (P := (0 : Int32) = 0 ∨ (0 : Int32) = 1) rfl (by decide) (h.2 c1)
set_option maxRecDepth 100000 in
theorem G_Lw_law_246 {d : Nat} {x3 : Int32} {w : xWd} {Q : xMV → xWd → Prop} (h : (vp_in (x3 + 1) (w 4 0).toNatClampNeg ∧ (vp_in (x3 + 2) (w 4 0).toNatClampNeg ∧ xWp (d + 6) m_Vp_used 0 [xA 6 1, xI (w 0 (x3 + 1).toNatClampNeg), xI (w 0 (x3 + 2).toNatClampNeg)] [] w (fun a w' => xWp (d + 7) m_Lw_law 260 [xA 51 0, xA 6 1, xA 7 2, xI x3] (x_pu a []) w' Q)))) : xWp (d + 7) m_Lw_law 246 [xA 51 0, xA 6 1, xA 7 2, xI x3] [] w Q := by
  refine x_goN 5 (pc' := 251) (ls' := [xA 51 0, xA 6 1, xA 7 2, xI x3]) (st' := [xI (x3 + 1), xA 51 0, xA 6 1]) (w' := w) rfl ?_
  refine x_ob (P := 0 = 0 ∧ vp_in (x3 + 1) (w 4 0).toNatClampNeg) (pc' := 252) (ls' := [xA 51 0, xA 6 1, xA 7 2, xI x3]) (st' := [xI (w 0 (x3 + 1).toNatClampNeg), xA 6 1]) (w' := w) rfl ⟨rfl, h.1⟩ ?_
  refine x_goN 4 (pc' := 256) (ls' := [xA 51 0, xA 6 1, xA 7 2, xI x3]) (st' := [xI (x3 + 2), xA 51 0, xI (w 0 (x3 + 1).toNatClampNeg), xA 6 1]) (w' := w) rfl ?_
  refine x_ob (P := 0 = 0 ∧ vp_in (x3 + 2) (w 4 0).toNatClampNeg) (pc' := 257) (ls' := [xA 51 0, xA 6 1, xA 7 2, xI x3]) (st' := [xI (w 0 (x3 + 2).toNatClampNeg), xI (w 0 (x3 + 1).toNatClampNeg), xA 6 1]) (w' := w) rfl ⟨rfl, h.2.1⟩ ?_
  refine x_call (y := m_Vp_used) (as := [xA 6 1, xI (w 0 (x3 + 1).toNatClampNeg), xI (w 0 (x3 + 2).toNatClampNeg)]) (rst := []) rfl [xA 6 1, xI (w 0 (x3 + 1).toNatClampNeg), xI (w 0 (x3 + 2).toNatClampNeg)] rfl ?_
  exact h.2.2
set_option maxRecDepth 100000 in
theorem G_Lw_law_260 {d : Nat} {x3 : Int32} {s0 : Int32} {w : xWd} {Q : xMV → xWd → Prop} (h : (vp_in (x3 + 1) (w 4 0).toNatClampNeg ∧ (vp_in (x3 + 2) (w 4 0).toNatClampNeg ∧ xWp (d + 6) m_Md_used 0 [xA 7 2, xI (w 0 (x3 + 1).toNatClampNeg), xI (w 0 (x3 + 2).toNatClampNeg)] [] w (fun a w' => xWp (d + 7) m_Lw_law 274 [xA 51 0, xA 6 1, xA 7 2, xI x3] (x_pu a [xI s0]) w' Q)))) : xWp (d + 7) m_Lw_law 260 [xA 51 0, xA 6 1, xA 7 2, xI x3] [xI s0] w Q := by
  refine x_goN 5 (pc' := 265) (ls' := [xA 51 0, xA 6 1, xA 7 2, xI x3]) (st' := [xI (x3 + 1), xA 51 0, xA 7 2, xI s0]) (w' := w) rfl ?_
  refine x_ob (P := 0 = 0 ∧ vp_in (x3 + 1) (w 4 0).toNatClampNeg) (pc' := 266) (ls' := [xA 51 0, xA 6 1, xA 7 2, xI x3]) (st' := [xI (w 0 (x3 + 1).toNatClampNeg), xA 7 2, xI s0]) (w' := w) rfl ⟨rfl, h.1⟩ ?_
  refine x_goN 4 (pc' := 270) (ls' := [xA 51 0, xA 6 1, xA 7 2, xI x3]) (st' := [xI (x3 + 2), xA 51 0, xI (w 0 (x3 + 1).toNatClampNeg), xA 7 2, xI s0]) (w' := w) rfl ?_
  refine x_ob (P := 0 = 0 ∧ vp_in (x3 + 2) (w 4 0).toNatClampNeg) (pc' := 271) (ls' := [xA 51 0, xA 6 1, xA 7 2, xI x3]) (st' := [xI (w 0 (x3 + 2).toNatClampNeg), xI (w 0 (x3 + 1).toNatClampNeg), xA 7 2, xI s0]) (w' := w) rfl ⟨rfl, h.2.1⟩ ?_
  refine x_call (y := m_Md_used) (as := [xA 7 2, xI (w 0 (x3 + 1).toNatClampNeg), xI (w 0 (x3 + 2).toNatClampNeg)]) (rst := [xI s0]) rfl [xA 7 2, xI (w 0 (x3 + 1).toNatClampNeg), xI (w 0 (x3 + 2).toNatClampNeg)] rfl ?_
  exact h.2.2
set_option maxRecDepth 100000 in
theorem G_Lw_law_274 {d : Nat} {x3 : Int32} {s1 : Int32} {s0 : Int32} {w : xWd} {Q : xMV → xWd → Prop} (h : ((s0 = s1 → xWp (d + 7) m_Lw_law 1106 [xA 51 0, xA 6 1, xA 7 2, xI x3] [] w Q) ∧ (¬ (s0 = s1) → Q (xI 0) w))) : xWp (d + 7) m_Lw_law 274 [xA 51 0, xA 6 1, xA 7 2, xI x3] [xI s1, xI s0] w Q := by
  refine x_goN 1 (pc' := if s0 = s1 then 1106 else 277) (ls' := [xA 51 0, xA 6 1, xA 7 2, xI x3]) (st' := []) (w' := w) rfl ?_
  refine x_br (fun c1 => ?_) (fun c1 => ?_)
  · skip
    exact (h.1 c1)
  · skip
    refine x_goN 1 (pc' := 278) (ls' := [xA 51 0, xA 6 1, xA 7 2, xI x3]) (st' := [xI 0]) (w' := w) rfl ?_
    exact x_ret (P := (0 : Int32) = 0 ∨ (0 : Int32) = 1) rfl (by decide) (h.2 c1)
set_option maxRecDepth 100000 in
theorem G_Lw_law_279 {d : Nat} {x3 : Int32} {w : xWd} {Q : xMV → xWd → Prop} (h : (vp_in (x3 + 1) (w 4 0).toNatClampNeg ∧ (vp_in (x3 + 2) (w 4 0).toNatClampNeg ∧ (vp_in (x3 + 3) (w 4 0).toNatClampNeg ∧ xWp (d + 6) m_Vp_reuse 0 [xA 6 1, xI (w 0 (x3 + 1).toNatClampNeg), xI (w 0 (x3 + 2).toNatClampNeg), xI (w 0 (x3 + 3).toNatClampNeg), xU] [] w (fun a w' => xWp (d + 7) m_Lw_law 298 [xA 51 0, xA 6 1, xA 7 2, xI x3] (x_pu a []) w' Q))))) : xWp (d + 7) m_Lw_law 279 [xA 51 0, xA 6 1, xA 7 2, xI x3] [] w Q := by
  refine x_goN 5 (pc' := 284) (ls' := [xA 51 0, xA 6 1, xA 7 2, xI x3]) (st' := [xI (x3 + 1), xA 51 0, xA 6 1]) (w' := w) rfl ?_
  refine x_ob (P := 0 = 0 ∧ vp_in (x3 + 1) (w 4 0).toNatClampNeg) (pc' := 285) (ls' := [xA 51 0, xA 6 1, xA 7 2, xI x3]) (st' := [xI (w 0 (x3 + 1).toNatClampNeg), xA 6 1]) (w' := w) rfl ⟨rfl, h.1⟩ ?_
  refine x_goN 4 (pc' := 289) (ls' := [xA 51 0, xA 6 1, xA 7 2, xI x3]) (st' := [xI (x3 + 2), xA 51 0, xI (w 0 (x3 + 1).toNatClampNeg), xA 6 1]) (w' := w) rfl ?_
  refine x_ob (P := 0 = 0 ∧ vp_in (x3 + 2) (w 4 0).toNatClampNeg) (pc' := 290) (ls' := [xA 51 0, xA 6 1, xA 7 2, xI x3]) (st' := [xI (w 0 (x3 + 2).toNatClampNeg), xI (w 0 (x3 + 1).toNatClampNeg), xA 6 1]) (w' := w) rfl ⟨rfl, h.2.1⟩ ?_
  refine x_goN 4 (pc' := 294) (ls' := [xA 51 0, xA 6 1, xA 7 2, xI x3]) (st' := [xI (x3 + 3), xA 51 0, xI (w 0 (x3 + 2).toNatClampNeg), xI (w 0 (x3 + 1).toNatClampNeg), xA 6 1]) (w' := w) rfl ?_
  refine x_ob (P := 0 = 0 ∧ vp_in (x3 + 3) (w 4 0).toNatClampNeg) (pc' := 295) (ls' := [xA 51 0, xA 6 1, xA 7 2, xI x3]) (st' := [xI (w 0 (x3 + 3).toNatClampNeg), xI (w 0 (x3 + 2).toNatClampNeg), xI (w 0 (x3 + 1).toNatClampNeg), xA 6 1]) (w' := w) rfl ⟨rfl, h.2.2.1⟩ ?_
  refine x_call (y := m_Vp_reuse) (as := [xA 6 1, xI (w 0 (x3 + 1).toNatClampNeg), xI (w 0 (x3 + 2).toNatClampNeg), xI (w 0 (x3 + 3).toNatClampNeg)]) (rst := []) rfl [xA 6 1, xI (w 0 (x3 + 1).toNatClampNeg), xI (w 0 (x3 + 2).toNatClampNeg), xI (w 0 (x3 + 3).toNatClampNeg), xU] rfl ?_
  exact h.2.2.2
set_option maxRecDepth 100000 in
theorem G_Lw_law_298 {d : Nat} {x3 : Int32} {s0 : Int32} {w : xWd} {Q : xMV → xWd → Prop} (h : (vp_in (x3 + 1) (w 4 0).toNatClampNeg ∧ (vp_in (x3 + 2) (w 4 0).toNatClampNeg ∧ (vp_in (x3 + 3) (w 4 0).toNatClampNeg ∧ xWp (d + 6) m_Md_reuse 0 [xA 7 2, xI (w 0 (x3 + 1).toNatClampNeg), xI (w 0 (x3 + 2).toNatClampNeg), xI (w 0 (x3 + 3).toNatClampNeg), xU] [] w (fun a w' => xWp (d + 7) m_Lw_law 317 [xA 51 0, xA 6 1, xA 7 2, xI x3] (x_pu a [xI s0]) w' Q))))) : xWp (d + 7) m_Lw_law 298 [xA 51 0, xA 6 1, xA 7 2, xI x3] [xI s0] w Q := by
  refine x_goN 5 (pc' := 303) (ls' := [xA 51 0, xA 6 1, xA 7 2, xI x3]) (st' := [xI (x3 + 1), xA 51 0, xA 7 2, xI s0]) (w' := w) rfl ?_
  refine x_ob (P := 0 = 0 ∧ vp_in (x3 + 1) (w 4 0).toNatClampNeg) (pc' := 304) (ls' := [xA 51 0, xA 6 1, xA 7 2, xI x3]) (st' := [xI (w 0 (x3 + 1).toNatClampNeg), xA 7 2, xI s0]) (w' := w) rfl ⟨rfl, h.1⟩ ?_
  refine x_goN 4 (pc' := 308) (ls' := [xA 51 0, xA 6 1, xA 7 2, xI x3]) (st' := [xI (x3 + 2), xA 51 0, xI (w 0 (x3 + 1).toNatClampNeg), xA 7 2, xI s0]) (w' := w) rfl ?_
  refine x_ob (P := 0 = 0 ∧ vp_in (x3 + 2) (w 4 0).toNatClampNeg) (pc' := 309) (ls' := [xA 51 0, xA 6 1, xA 7 2, xI x3]) (st' := [xI (w 0 (x3 + 2).toNatClampNeg), xI (w 0 (x3 + 1).toNatClampNeg), xA 7 2, xI s0]) (w' := w) rfl ⟨rfl, h.2.1⟩ ?_
  refine x_goN 4 (pc' := 313) (ls' := [xA 51 0, xA 6 1, xA 7 2, xI x3]) (st' := [xI (x3 + 3), xA 51 0, xI (w 0 (x3 + 2).toNatClampNeg), xI (w 0 (x3 + 1).toNatClampNeg), xA 7 2, xI s0]) (w' := w) rfl ?_
  refine x_ob (P := 0 = 0 ∧ vp_in (x3 + 3) (w 4 0).toNatClampNeg) (pc' := 314) (ls' := [xA 51 0, xA 6 1, xA 7 2, xI x3]) (st' := [xI (w 0 (x3 + 3).toNatClampNeg), xI (w 0 (x3 + 2).toNatClampNeg), xI (w 0 (x3 + 1).toNatClampNeg), xA 7 2, xI s0]) (w' := w) rfl ⟨rfl, h.2.2.1⟩ ?_
  refine x_call (y := m_Md_reuse) (as := [xA 7 2, xI (w 0 (x3 + 1).toNatClampNeg), xI (w 0 (x3 + 2).toNatClampNeg), xI (w 0 (x3 + 3).toNatClampNeg)]) (rst := [xI s0]) rfl [xA 7 2, xI (w 0 (x3 + 1).toNatClampNeg), xI (w 0 (x3 + 2).toNatClampNeg), xI (w 0 (x3 + 3).toNatClampNeg), xU] rfl ?_
  exact h.2.2.2
set_option maxRecDepth 100000 in
theorem G_Lw_law_317 {d : Nat} {x3 : Int32} {s1 : Int32} {s0 : Int32} {w : xWd} {Q : xMV → xWd → Prop} (h : ((s0 = s1 → xWp (d + 7) m_Lw_law 1106 [xA 51 0, xA 6 1, xA 7 2, xI x3] [] w Q) ∧ (¬ (s0 = s1) → Q (xI 0) w))) : xWp (d + 7) m_Lw_law 317 [xA 51 0, xA 6 1, xA 7 2, xI x3] [xI s1, xI s0] w Q := by
  refine x_goN 1 (pc' := if s0 = s1 then 1106 else 320) (ls' := [xA 51 0, xA 6 1, xA 7 2, xI x3]) (st' := []) (w' := w) rfl ?_
  refine x_br (fun c1 => ?_) (fun c1 => ?_)
  · skip
    exact (h.1 c1)
  · skip
    refine x_goN 1 (pc' := 321) (ls' := [xA 51 0, xA 6 1, xA 7 2, xI x3]) (st' := [xI 0]) (w' := w) rfl ?_
    exact x_ret (P := (0 : Int32) = 0 ∨ (0 : Int32) = 1) rfl (by decide) (h.2 c1)
set_option maxRecDepth 100000 in
theorem G_Lw_law_322 {d : Nat} {x3 : Int32} {w : xWd} {Q : xMV → xWd → Prop} (h : (vp_in (x3 + 1) (w 4 0).toNatClampNeg ∧ (vp_in (x3 + 2) (w 4 0).toNatClampNeg ∧ (vp_in (x3 + 3) (w 4 0).toNatClampNeg ∧ (vp_in (x3 + 4) (w 4 0).toNatClampNeg ∧ xWp (d + 6) m_Vp_grow 0 [xA 6 1, xI (w 0 (x3 + 1).toNatClampNeg), xI (w 0 (x3 + 2).toNatClampNeg), xI (w 0 (x3 + 3).toNatClampNeg), xI (w 0 (x3 + 4).toNatClampNeg), xU] [] w (fun a w' => xWp (d + 7) m_Lw_law 346 [xA 51 0, xA 6 1, xA 7 2, xI x3] (x_pu a []) w' Q)))))) : xWp (d + 7) m_Lw_law 322 [xA 51 0, xA 6 1, xA 7 2, xI x3] [] w Q := by
  refine x_goN 5 (pc' := 327) (ls' := [xA 51 0, xA 6 1, xA 7 2, xI x3]) (st' := [xI (x3 + 1), xA 51 0, xA 6 1]) (w' := w) rfl ?_
  refine x_ob (P := 0 = 0 ∧ vp_in (x3 + 1) (w 4 0).toNatClampNeg) (pc' := 328) (ls' := [xA 51 0, xA 6 1, xA 7 2, xI x3]) (st' := [xI (w 0 (x3 + 1).toNatClampNeg), xA 6 1]) (w' := w) rfl ⟨rfl, h.1⟩ ?_
  refine x_goN 4 (pc' := 332) (ls' := [xA 51 0, xA 6 1, xA 7 2, xI x3]) (st' := [xI (x3 + 2), xA 51 0, xI (w 0 (x3 + 1).toNatClampNeg), xA 6 1]) (w' := w) rfl ?_
  refine x_ob (P := 0 = 0 ∧ vp_in (x3 + 2) (w 4 0).toNatClampNeg) (pc' := 333) (ls' := [xA 51 0, xA 6 1, xA 7 2, xI x3]) (st' := [xI (w 0 (x3 + 2).toNatClampNeg), xI (w 0 (x3 + 1).toNatClampNeg), xA 6 1]) (w' := w) rfl ⟨rfl, h.2.1⟩ ?_
  refine x_goN 4 (pc' := 337) (ls' := [xA 51 0, xA 6 1, xA 7 2, xI x3]) (st' := [xI (x3 + 3), xA 51 0, xI (w 0 (x3 + 2).toNatClampNeg), xI (w 0 (x3 + 1).toNatClampNeg), xA 6 1]) (w' := w) rfl ?_
  refine x_ob (P := 0 = 0 ∧ vp_in (x3 + 3) (w 4 0).toNatClampNeg) (pc' := 338) (ls' := [xA 51 0, xA 6 1, xA 7 2, xI x3]) (st' := [xI (w 0 (x3 + 3).toNatClampNeg), xI (w 0 (x3 + 2).toNatClampNeg), xI (w 0 (x3 + 1).toNatClampNeg), xA 6 1]) (w' := w) rfl ⟨rfl, h.2.2.1⟩ ?_
  refine x_goN 4 (pc' := 342) (ls' := [xA 51 0, xA 6 1, xA 7 2, xI x3]) (st' := [xI (x3 + 4), xA 51 0, xI (w 0 (x3 + 3).toNatClampNeg), xI (w 0 (x3 + 2).toNatClampNeg), xI (w 0 (x3 + 1).toNatClampNeg), xA 6 1]) (w' := w) rfl ?_
  refine x_ob (P := 0 = 0 ∧ vp_in (x3 + 4) (w 4 0).toNatClampNeg) (pc' := 343) (ls' := [xA 51 0, xA 6 1, xA 7 2, xI x3]) (st' := [xI (w 0 (x3 + 4).toNatClampNeg), xI (w 0 (x3 + 3).toNatClampNeg), xI (w 0 (x3 + 2).toNatClampNeg), xI (w 0 (x3 + 1).toNatClampNeg), xA 6 1]) (w' := w) rfl ⟨rfl, h.2.2.2.1⟩ ?_
  refine x_call (y := m_Vp_grow) (as := [xA 6 1, xI (w 0 (x3 + 1).toNatClampNeg), xI (w 0 (x3 + 2).toNatClampNeg), xI (w 0 (x3 + 3).toNatClampNeg), xI (w 0 (x3 + 4).toNatClampNeg)]) (rst := []) rfl [xA 6 1, xI (w 0 (x3 + 1).toNatClampNeg), xI (w 0 (x3 + 2).toNatClampNeg), xI (w 0 (x3 + 3).toNatClampNeg), xI (w 0 (x3 + 4).toNatClampNeg), xU] rfl ?_
  exact h.2.2.2.2
set_option maxRecDepth 100000 in
theorem G_Lw_law_346 {d : Nat} {x3 : Int32} {s0 : Int32} {w : xWd} {Q : xMV → xWd → Prop} (h : (vp_in (x3 + 1) (w 4 0).toNatClampNeg ∧ (vp_in (x3 + 2) (w 4 0).toNatClampNeg ∧ (vp_in (x3 + 3) (w 4 0).toNatClampNeg ∧ (vp_in (x3 + 4) (w 4 0).toNatClampNeg ∧ xWp (d + 6) m_Md_grow 0 [xA 7 2, xI (w 0 (x3 + 1).toNatClampNeg), xI (w 0 (x3 + 2).toNatClampNeg), xI (w 0 (x3 + 3).toNatClampNeg), xI (w 0 (x3 + 4).toNatClampNeg)] [] w (fun a w' => xWp (d + 7) m_Lw_law 370 [xA 51 0, xA 6 1, xA 7 2, xI x3] (x_pu a [xI s0]) w' Q)))))) : xWp (d + 7) m_Lw_law 346 [xA 51 0, xA 6 1, xA 7 2, xI x3] [xI s0] w Q := by
  refine x_goN 5 (pc' := 351) (ls' := [xA 51 0, xA 6 1, xA 7 2, xI x3]) (st' := [xI (x3 + 1), xA 51 0, xA 7 2, xI s0]) (w' := w) rfl ?_
  refine x_ob (P := 0 = 0 ∧ vp_in (x3 + 1) (w 4 0).toNatClampNeg) (pc' := 352) (ls' := [xA 51 0, xA 6 1, xA 7 2, xI x3]) (st' := [xI (w 0 (x3 + 1).toNatClampNeg), xA 7 2, xI s0]) (w' := w) rfl ⟨rfl, h.1⟩ ?_
  refine x_goN 4 (pc' := 356) (ls' := [xA 51 0, xA 6 1, xA 7 2, xI x3]) (st' := [xI (x3 + 2), xA 51 0, xI (w 0 (x3 + 1).toNatClampNeg), xA 7 2, xI s0]) (w' := w) rfl ?_
  refine x_ob (P := 0 = 0 ∧ vp_in (x3 + 2) (w 4 0).toNatClampNeg) (pc' := 357) (ls' := [xA 51 0, xA 6 1, xA 7 2, xI x3]) (st' := [xI (w 0 (x3 + 2).toNatClampNeg), xI (w 0 (x3 + 1).toNatClampNeg), xA 7 2, xI s0]) (w' := w) rfl ⟨rfl, h.2.1⟩ ?_
  refine x_goN 4 (pc' := 361) (ls' := [xA 51 0, xA 6 1, xA 7 2, xI x3]) (st' := [xI (x3 + 3), xA 51 0, xI (w 0 (x3 + 2).toNatClampNeg), xI (w 0 (x3 + 1).toNatClampNeg), xA 7 2, xI s0]) (w' := w) rfl ?_
  refine x_ob (P := 0 = 0 ∧ vp_in (x3 + 3) (w 4 0).toNatClampNeg) (pc' := 362) (ls' := [xA 51 0, xA 6 1, xA 7 2, xI x3]) (st' := [xI (w 0 (x3 + 3).toNatClampNeg), xI (w 0 (x3 + 2).toNatClampNeg), xI (w 0 (x3 + 1).toNatClampNeg), xA 7 2, xI s0]) (w' := w) rfl ⟨rfl, h.2.2.1⟩ ?_
  refine x_goN 4 (pc' := 366) (ls' := [xA 51 0, xA 6 1, xA 7 2, xI x3]) (st' := [xI (x3 + 4), xA 51 0, xI (w 0 (x3 + 3).toNatClampNeg), xI (w 0 (x3 + 2).toNatClampNeg), xI (w 0 (x3 + 1).toNatClampNeg), xA 7 2, xI s0]) (w' := w) rfl ?_
  refine x_ob (P := 0 = 0 ∧ vp_in (x3 + 4) (w 4 0).toNatClampNeg) (pc' := 367) (ls' := [xA 51 0, xA 6 1, xA 7 2, xI x3]) (st' := [xI (w 0 (x3 + 4).toNatClampNeg), xI (w 0 (x3 + 3).toNatClampNeg), xI (w 0 (x3 + 2).toNatClampNeg), xI (w 0 (x3 + 1).toNatClampNeg), xA 7 2, xI s0]) (w' := w) rfl ⟨rfl, h.2.2.2.1⟩ ?_
  refine x_call (y := m_Md_grow) (as := [xA 7 2, xI (w 0 (x3 + 1).toNatClampNeg), xI (w 0 (x3 + 2).toNatClampNeg), xI (w 0 (x3 + 3).toNatClampNeg), xI (w 0 (x3 + 4).toNatClampNeg)]) (rst := [xI s0]) rfl [xA 7 2, xI (w 0 (x3 + 1).toNatClampNeg), xI (w 0 (x3 + 2).toNatClampNeg), xI (w 0 (x3 + 3).toNatClampNeg), xI (w 0 (x3 + 4).toNatClampNeg)] rfl ?_
  exact h.2.2.2.2
set_option maxRecDepth 100000 in
theorem G_Lw_law_370 {d : Nat} {x3 : Int32} {s1 : Int32} {s0 : Int32} {w : xWd} {Q : xMV → xWd → Prop} (h : ((s0 = s1 → xWp (d + 7) m_Lw_law 1106 [xA 51 0, xA 6 1, xA 7 2, xI x3] [] w Q) ∧ (¬ (s0 = s1) → Q (xI 0) w))) : xWp (d + 7) m_Lw_law 370 [xA 51 0, xA 6 1, xA 7 2, xI x3] [xI s1, xI s0] w Q := by
  refine x_goN 1 (pc' := if s0 = s1 then 1106 else 373) (ls' := [xA 51 0, xA 6 1, xA 7 2, xI x3]) (st' := []) (w' := w) rfl ?_
  refine x_br (fun c1 => ?_) (fun c1 => ?_)
  · skip
    exact (h.1 c1)
  · skip
    refine x_goN 1 (pc' := 374) (ls' := [xA 51 0, xA 6 1, xA 7 2, xI x3]) (st' := [xI 0]) (w' := w) rfl ?_
    exact x_ret (P := (0 : Int32) = 0 ∨ (0 : Int32) = 1) rfl (by decide) (h.2 c1)
set_option maxRecDepth 100000 in
theorem G_Lw_law_375 {d : Nat} {x3 : Int32} {w : xWd} {Q : xMV → xWd → Prop} (h : xWp (d + 6) m_Vp_cut 0 [xA 6 1] [] w (fun a w' => xWp (d + 7) m_Lw_law 379 [xA 51 0, xA 6 1, xA 7 2, xI x3] (x_pu a []) w' Q)) : xWp (d + 7) m_Lw_law 375 [xA 51 0, xA 6 1, xA 7 2, xI x3] [] w Q := by
  refine x_goN 1 (pc' := 376) (ls' := [xA 51 0, xA 6 1, xA 7 2, xI x3]) (st' := [xA 6 1]) (w' := w) rfl ?_
  refine x_call (y := m_Vp_cut) (as := [xA 6 1]) (rst := []) rfl [xA 6 1] rfl ?_
  exact h
set_option maxRecDepth 100000 in
theorem G_Lw_law_379 {d : Nat} {x3 : Int32} {s0 : Int32} {w : xWd} {Q : xMV → xWd → Prop} (h : xWp (d + 6) m_Md_cut 0 [xA 7 2, xU, xU] [] w (fun a w' => xWp (d + 7) m_Lw_law 383 [xA 51 0, xA 6 1, xA 7 2, xI x3] (x_pu a [xI s0]) w' Q)) : xWp (d + 7) m_Lw_law 379 [xA 51 0, xA 6 1, xA 7 2, xI x3] [xI s0] w Q := by
  refine x_goN 1 (pc' := 380) (ls' := [xA 51 0, xA 6 1, xA 7 2, xI x3]) (st' := [xA 7 2, xI s0]) (w' := w) rfl ?_
  refine x_call (y := m_Md_cut) (as := [xA 7 2]) (rst := [xI s0]) rfl [xA 7 2, xU, xU] rfl ?_
  exact h
set_option maxRecDepth 100000 in
theorem G_Lw_law_383 {d : Nat} {x3 : Int32} {s1 : Int32} {s0 : Int32} {w : xWd} {Q : xMV → xWd → Prop} (h : ((s0 = s1 → xWp (d + 7) m_Lw_law 1106 [xA 51 0, xA 6 1, xA 7 2, xI x3] [] w Q) ∧ (¬ (s0 = s1) → Q (xI 0) w))) : xWp (d + 7) m_Lw_law 383 [xA 51 0, xA 6 1, xA 7 2, xI x3] [xI s1, xI s0] w Q := by
  refine x_goN 1 (pc' := if s0 = s1 then 1106 else 386) (ls' := [xA 51 0, xA 6 1, xA 7 2, xI x3]) (st' := []) (w' := w) rfl ?_
  refine x_br (fun c1 => ?_) (fun c1 => ?_)
  · skip
    exact (h.1 c1)
  · skip
    refine x_goN 1 (pc' := 387) (ls' := [xA 51 0, xA 6 1, xA 7 2, xI x3]) (st' := [xI 0]) (w' := w) rfl ?_
    exact x_ret (P := (0 : Int32) = 0 ∨ (0 : Int32) = 1) rfl (by decide) (h.2 c1)
set_option maxRecDepth 100000 in
theorem G_Lw_law_388 {d : Nat} {x3 : Int32} {w : xWd} {Q : xMV → xWd → Prop} (h : (vp_in (x3 + 1) (w 4 0).toNatClampNeg ∧ (vp_in (x3 + 2) (w 4 0).toNatClampNeg ∧ (vp_in (x3 + 3) (w 4 0).toNatClampNeg ∧ (vp_in (x3 + 4) (w 4 0).toNatClampNeg ∧ (vp_in (x3 + 5) (w 4 0).toNatClampNeg ∧ xWp (d + 6) m_Vp_day 0 [xA 6 1, xI (w 0 (x3 + 1).toNatClampNeg), xI (w 0 (x3 + 2).toNatClampNeg), xI (w 0 (x3 + 3).toNatClampNeg), xI (w 0 (x3 + 4).toNatClampNeg), xI (w 0 (x3 + 5).toNatClampNeg), xU, xU] [] w (fun a w' => xWp (d + 7) m_Lw_law 417 [xA 51 0, xA 6 1, xA 7 2, xI x3] (x_pu a []) w' Q))))))) : xWp (d + 7) m_Lw_law 388 [xA 51 0, xA 6 1, xA 7 2, xI x3] [] w Q := by
  refine x_goN 5 (pc' := 393) (ls' := [xA 51 0, xA 6 1, xA 7 2, xI x3]) (st' := [xI (x3 + 1), xA 51 0, xA 6 1]) (w' := w) rfl ?_
  refine x_ob (P := 0 = 0 ∧ vp_in (x3 + 1) (w 4 0).toNatClampNeg) (pc' := 394) (ls' := [xA 51 0, xA 6 1, xA 7 2, xI x3]) (st' := [xI (w 0 (x3 + 1).toNatClampNeg), xA 6 1]) (w' := w) rfl ⟨rfl, h.1⟩ ?_
  refine x_goN 4 (pc' := 398) (ls' := [xA 51 0, xA 6 1, xA 7 2, xI x3]) (st' := [xI (x3 + 2), xA 51 0, xI (w 0 (x3 + 1).toNatClampNeg), xA 6 1]) (w' := w) rfl ?_
  refine x_ob (P := 0 = 0 ∧ vp_in (x3 + 2) (w 4 0).toNatClampNeg) (pc' := 399) (ls' := [xA 51 0, xA 6 1, xA 7 2, xI x3]) (st' := [xI (w 0 (x3 + 2).toNatClampNeg), xI (w 0 (x3 + 1).toNatClampNeg), xA 6 1]) (w' := w) rfl ⟨rfl, h.2.1⟩ ?_
  refine x_goN 4 (pc' := 403) (ls' := [xA 51 0, xA 6 1, xA 7 2, xI x3]) (st' := [xI (x3 + 3), xA 51 0, xI (w 0 (x3 + 2).toNatClampNeg), xI (w 0 (x3 + 1).toNatClampNeg), xA 6 1]) (w' := w) rfl ?_
  refine x_ob (P := 0 = 0 ∧ vp_in (x3 + 3) (w 4 0).toNatClampNeg) (pc' := 404) (ls' := [xA 51 0, xA 6 1, xA 7 2, xI x3]) (st' := [xI (w 0 (x3 + 3).toNatClampNeg), xI (w 0 (x3 + 2).toNatClampNeg), xI (w 0 (x3 + 1).toNatClampNeg), xA 6 1]) (w' := w) rfl ⟨rfl, h.2.2.1⟩ ?_
  refine x_goN 4 (pc' := 408) (ls' := [xA 51 0, xA 6 1, xA 7 2, xI x3]) (st' := [xI (x3 + 4), xA 51 0, xI (w 0 (x3 + 3).toNatClampNeg), xI (w 0 (x3 + 2).toNatClampNeg), xI (w 0 (x3 + 1).toNatClampNeg), xA 6 1]) (w' := w) rfl ?_
  refine x_ob (P := 0 = 0 ∧ vp_in (x3 + 4) (w 4 0).toNatClampNeg) (pc' := 409) (ls' := [xA 51 0, xA 6 1, xA 7 2, xI x3]) (st' := [xI (w 0 (x3 + 4).toNatClampNeg), xI (w 0 (x3 + 3).toNatClampNeg), xI (w 0 (x3 + 2).toNatClampNeg), xI (w 0 (x3 + 1).toNatClampNeg), xA 6 1]) (w' := w) rfl ⟨rfl, h.2.2.2.1⟩ ?_
  refine x_goN 4 (pc' := 413) (ls' := [xA 51 0, xA 6 1, xA 7 2, xI x3]) (st' := [xI (x3 + 5), xA 51 0, xI (w 0 (x3 + 4).toNatClampNeg), xI (w 0 (x3 + 3).toNatClampNeg), xI (w 0 (x3 + 2).toNatClampNeg), xI (w 0 (x3 + 1).toNatClampNeg), xA 6 1]) (w' := w) rfl ?_
  refine x_ob (P := 0 = 0 ∧ vp_in (x3 + 5) (w 4 0).toNatClampNeg) (pc' := 414) (ls' := [xA 51 0, xA 6 1, xA 7 2, xI x3]) (st' := [xI (w 0 (x3 + 5).toNatClampNeg), xI (w 0 (x3 + 4).toNatClampNeg), xI (w 0 (x3 + 3).toNatClampNeg), xI (w 0 (x3 + 2).toNatClampNeg), xI (w 0 (x3 + 1).toNatClampNeg), xA 6 1]) (w' := w) rfl ⟨rfl, h.2.2.2.2.1⟩ ?_
  refine x_call (y := m_Vp_day) (as := [xA 6 1, xI (w 0 (x3 + 1).toNatClampNeg), xI (w 0 (x3 + 2).toNatClampNeg), xI (w 0 (x3 + 3).toNatClampNeg), xI (w 0 (x3 + 4).toNatClampNeg), xI (w 0 (x3 + 5).toNatClampNeg)]) (rst := []) rfl [xA 6 1, xI (w 0 (x3 + 1).toNatClampNeg), xI (w 0 (x3 + 2).toNatClampNeg), xI (w 0 (x3 + 3).toNatClampNeg), xI (w 0 (x3 + 4).toNatClampNeg), xI (w 0 (x3 + 5).toNatClampNeg), xU, xU] rfl ?_
  exact h.2.2.2.2.2
set_option maxRecDepth 100000 in
theorem G_Lw_law_417 {d : Nat} {x3 : Int32} {s0 : Int32} {w : xWd} {Q : xMV → xWd → Prop} (h : (vp_in (x3 + 1) (w 4 0).toNatClampNeg ∧ (vp_in (x3 + 2) (w 4 0).toNatClampNeg ∧ (vp_in (x3 + 3) (w 4 0).toNatClampNeg ∧ (vp_in (x3 + 4) (w 4 0).toNatClampNeg ∧ (vp_in (x3 + 5) (w 4 0).toNatClampNeg ∧ xWp (d + 6) m_Md_day 0 [xA 7 2, xI (w 0 (x3 + 1).toNatClampNeg), xI (w 0 (x3 + 2).toNatClampNeg), xI (w 0 (x3 + 3).toNatClampNeg), xI (w 0 (x3 + 4).toNatClampNeg), xI (w 0 (x3 + 5).toNatClampNeg), xU, xU, xU, xU] [] w (fun a w' => xWp (d + 7) m_Lw_law 446 [xA 51 0, xA 6 1, xA 7 2, xI x3] (x_pu a [xI s0]) w' Q))))))) : xWp (d + 7) m_Lw_law 417 [xA 51 0, xA 6 1, xA 7 2, xI x3] [xI s0] w Q := by
  refine x_goN 5 (pc' := 422) (ls' := [xA 51 0, xA 6 1, xA 7 2, xI x3]) (st' := [xI (x3 + 1), xA 51 0, xA 7 2, xI s0]) (w' := w) rfl ?_
  refine x_ob (P := 0 = 0 ∧ vp_in (x3 + 1) (w 4 0).toNatClampNeg) (pc' := 423) (ls' := [xA 51 0, xA 6 1, xA 7 2, xI x3]) (st' := [xI (w 0 (x3 + 1).toNatClampNeg), xA 7 2, xI s0]) (w' := w) rfl ⟨rfl, h.1⟩ ?_
  refine x_goN 4 (pc' := 427) (ls' := [xA 51 0, xA 6 1, xA 7 2, xI x3]) (st' := [xI (x3 + 2), xA 51 0, xI (w 0 (x3 + 1).toNatClampNeg), xA 7 2, xI s0]) (w' := w) rfl ?_
  refine x_ob (P := 0 = 0 ∧ vp_in (x3 + 2) (w 4 0).toNatClampNeg) (pc' := 428) (ls' := [xA 51 0, xA 6 1, xA 7 2, xI x3]) (st' := [xI (w 0 (x3 + 2).toNatClampNeg), xI (w 0 (x3 + 1).toNatClampNeg), xA 7 2, xI s0]) (w' := w) rfl ⟨rfl, h.2.1⟩ ?_
  refine x_goN 4 (pc' := 432) (ls' := [xA 51 0, xA 6 1, xA 7 2, xI x3]) (st' := [xI (x3 + 3), xA 51 0, xI (w 0 (x3 + 2).toNatClampNeg), xI (w 0 (x3 + 1).toNatClampNeg), xA 7 2, xI s0]) (w' := w) rfl ?_
  refine x_ob (P := 0 = 0 ∧ vp_in (x3 + 3) (w 4 0).toNatClampNeg) (pc' := 433) (ls' := [xA 51 0, xA 6 1, xA 7 2, xI x3]) (st' := [xI (w 0 (x3 + 3).toNatClampNeg), xI (w 0 (x3 + 2).toNatClampNeg), xI (w 0 (x3 + 1).toNatClampNeg), xA 7 2, xI s0]) (w' := w) rfl ⟨rfl, h.2.2.1⟩ ?_
  refine x_goN 4 (pc' := 437) (ls' := [xA 51 0, xA 6 1, xA 7 2, xI x3]) (st' := [xI (x3 + 4), xA 51 0, xI (w 0 (x3 + 3).toNatClampNeg), xI (w 0 (x3 + 2).toNatClampNeg), xI (w 0 (x3 + 1).toNatClampNeg), xA 7 2, xI s0]) (w' := w) rfl ?_
  refine x_ob (P := 0 = 0 ∧ vp_in (x3 + 4) (w 4 0).toNatClampNeg) (pc' := 438) (ls' := [xA 51 0, xA 6 1, xA 7 2, xI x3]) (st' := [xI (w 0 (x3 + 4).toNatClampNeg), xI (w 0 (x3 + 3).toNatClampNeg), xI (w 0 (x3 + 2).toNatClampNeg), xI (w 0 (x3 + 1).toNatClampNeg), xA 7 2, xI s0]) (w' := w) rfl ⟨rfl, h.2.2.2.1⟩ ?_
  refine x_goN 4 (pc' := 442) (ls' := [xA 51 0, xA 6 1, xA 7 2, xI x3]) (st' := [xI (x3 + 5), xA 51 0, xI (w 0 (x3 + 4).toNatClampNeg), xI (w 0 (x3 + 3).toNatClampNeg), xI (w 0 (x3 + 2).toNatClampNeg), xI (w 0 (x3 + 1).toNatClampNeg), xA 7 2, xI s0]) (w' := w) rfl ?_
  refine x_ob (P := 0 = 0 ∧ vp_in (x3 + 5) (w 4 0).toNatClampNeg) (pc' := 443) (ls' := [xA 51 0, xA 6 1, xA 7 2, xI x3]) (st' := [xI (w 0 (x3 + 5).toNatClampNeg), xI (w 0 (x3 + 4).toNatClampNeg), xI (w 0 (x3 + 3).toNatClampNeg), xI (w 0 (x3 + 2).toNatClampNeg), xI (w 0 (x3 + 1).toNatClampNeg), xA 7 2, xI s0]) (w' := w) rfl ⟨rfl, h.2.2.2.2.1⟩ ?_
  refine x_call (y := m_Md_day) (as := [xA 7 2, xI (w 0 (x3 + 1).toNatClampNeg), xI (w 0 (x3 + 2).toNatClampNeg), xI (w 0 (x3 + 3).toNatClampNeg), xI (w 0 (x3 + 4).toNatClampNeg), xI (w 0 (x3 + 5).toNatClampNeg)]) (rst := [xI s0]) rfl [xA 7 2, xI (w 0 (x3 + 1).toNatClampNeg), xI (w 0 (x3 + 2).toNatClampNeg), xI (w 0 (x3 + 3).toNatClampNeg), xI (w 0 (x3 + 4).toNatClampNeg), xI (w 0 (x3 + 5).toNatClampNeg), xU, xU, xU, xU] rfl ?_
  exact h.2.2.2.2.2
set_option maxRecDepth 100000 in
theorem G_Lw_law_446 {d : Nat} {x3 : Int32} {s1 : Int32} {s0 : Int32} {w : xWd} {Q : xMV → xWd → Prop} (h : ((s0 = s1 → xWp (d + 7) m_Lw_law 1106 [xA 51 0, xA 6 1, xA 7 2, xI x3] [] w Q) ∧ (¬ (s0 = s1) → Q (xI 0) w))) : xWp (d + 7) m_Lw_law 446 [xA 51 0, xA 6 1, xA 7 2, xI x3] [xI s1, xI s0] w Q := by
  refine x_goN 1 (pc' := if s0 = s1 then 1106 else 449) (ls' := [xA 51 0, xA 6 1, xA 7 2, xI x3]) (st' := []) (w' := w) rfl ?_
  refine x_br (fun c1 => ?_) (fun c1 => ?_)
  · skip
    exact (h.1 c1)
  · skip
    refine x_goN 1 (pc' := 450) (ls' := [xA 51 0, xA 6 1, xA 7 2, xI x3]) (st' := [xI 0]) (w' := w) rfl ?_
    exact x_ret (P := (0 : Int32) = 0 ∨ (0 : Int32) = 1) rfl (by decide) (h.2 c1)
set_option maxRecDepth 100000 in
theorem G_Lw_law_451 {d : Nat} {x3 : Int32} {w : xWd} {Q : xMV → xWd → Prop} (h : (vp_in (x3 + 1) (w 4 0).toNatClampNeg ∧ (vp_in (x3 + 2) (w 4 0).toNatClampNeg ∧ xWp (d + 6) m_Vp_cross 0 [xA 6 1, xI (w 0 (x3 + 1).toNatClampNeg), xI (w 0 (x3 + 2).toNatClampNeg)] [] w (fun a w' => xWp (d + 7) m_Lw_law 465 [xA 51 0, xA 6 1, xA 7 2, xI x3] (x_pu a []) w' Q)))) : xWp (d + 7) m_Lw_law 451 [xA 51 0, xA 6 1, xA 7 2, xI x3] [] w Q := by
  refine x_goN 5 (pc' := 456) (ls' := [xA 51 0, xA 6 1, xA 7 2, xI x3]) (st' := [xI (x3 + 1), xA 51 0, xA 6 1]) (w' := w) rfl ?_
  refine x_ob (P := 0 = 0 ∧ vp_in (x3 + 1) (w 4 0).toNatClampNeg) (pc' := 457) (ls' := [xA 51 0, xA 6 1, xA 7 2, xI x3]) (st' := [xI (w 0 (x3 + 1).toNatClampNeg), xA 6 1]) (w' := w) rfl ⟨rfl, h.1⟩ ?_
  refine x_goN 4 (pc' := 461) (ls' := [xA 51 0, xA 6 1, xA 7 2, xI x3]) (st' := [xI (x3 + 2), xA 51 0, xI (w 0 (x3 + 1).toNatClampNeg), xA 6 1]) (w' := w) rfl ?_
  refine x_ob (P := 0 = 0 ∧ vp_in (x3 + 2) (w 4 0).toNatClampNeg) (pc' := 462) (ls' := [xA 51 0, xA 6 1, xA 7 2, xI x3]) (st' := [xI (w 0 (x3 + 2).toNatClampNeg), xI (w 0 (x3 + 1).toNatClampNeg), xA 6 1]) (w' := w) rfl ⟨rfl, h.2.1⟩ ?_
  refine x_call (y := m_Vp_cross) (as := [xA 6 1, xI (w 0 (x3 + 1).toNatClampNeg), xI (w 0 (x3 + 2).toNatClampNeg)]) (rst := []) rfl [xA 6 1, xI (w 0 (x3 + 1).toNatClampNeg), xI (w 0 (x3 + 2).toNatClampNeg)] rfl ?_
  exact h.2.2
set_option maxRecDepth 100000 in
theorem G_Lw_law_465 {d : Nat} {x3 : Int32} {s0 : Int32} {w : xWd} {Q : xMV → xWd → Prop} (h : (vp_in (x3 + 1) (w 4 0).toNatClampNeg ∧ (vp_in (x3 + 2) (w 4 0).toNatClampNeg ∧ xWp (d + 6) m_Md_cross 0 [xA 7 2, xI (w 0 (x3 + 1).toNatClampNeg), xI (w 0 (x3 + 2).toNatClampNeg)] [] w (fun a w' => xWp (d + 7) m_Lw_law 479 [xA 51 0, xA 6 1, xA 7 2, xI x3] (x_pu a [xI s0]) w' Q)))) : xWp (d + 7) m_Lw_law 465 [xA 51 0, xA 6 1, xA 7 2, xI x3] [xI s0] w Q := by
  refine x_goN 5 (pc' := 470) (ls' := [xA 51 0, xA 6 1, xA 7 2, xI x3]) (st' := [xI (x3 + 1), xA 51 0, xA 7 2, xI s0]) (w' := w) rfl ?_
  refine x_ob (P := 0 = 0 ∧ vp_in (x3 + 1) (w 4 0).toNatClampNeg) (pc' := 471) (ls' := [xA 51 0, xA 6 1, xA 7 2, xI x3]) (st' := [xI (w 0 (x3 + 1).toNatClampNeg), xA 7 2, xI s0]) (w' := w) rfl ⟨rfl, h.1⟩ ?_
  refine x_goN 4 (pc' := 475) (ls' := [xA 51 0, xA 6 1, xA 7 2, xI x3]) (st' := [xI (x3 + 2), xA 51 0, xI (w 0 (x3 + 1).toNatClampNeg), xA 7 2, xI s0]) (w' := w) rfl ?_
  refine x_ob (P := 0 = 0 ∧ vp_in (x3 + 2) (w 4 0).toNatClampNeg) (pc' := 476) (ls' := [xA 51 0, xA 6 1, xA 7 2, xI x3]) (st' := [xI (w 0 (x3 + 2).toNatClampNeg), xI (w 0 (x3 + 1).toNatClampNeg), xA 7 2, xI s0]) (w' := w) rfl ⟨rfl, h.2.1⟩ ?_
  refine x_call (y := m_Md_cross) (as := [xA 7 2, xI (w 0 (x3 + 1).toNatClampNeg), xI (w 0 (x3 + 2).toNatClampNeg)]) (rst := [xI s0]) rfl [xA 7 2, xI (w 0 (x3 + 1).toNatClampNeg), xI (w 0 (x3 + 2).toNatClampNeg)] rfl ?_
  exact h.2.2
set_option maxRecDepth 100000 in
theorem G_Lw_law_479 {d : Nat} {x3 : Int32} {s1 : Int32} {s0 : Int32} {w : xWd} {Q : xMV → xWd → Prop} (h : ((s0 = s1 → xWp (d + 7) m_Lw_law 1106 [xA 51 0, xA 6 1, xA 7 2, xI x3] [] w Q) ∧ (¬ (s0 = s1) → Q (xI 0) w))) : xWp (d + 7) m_Lw_law 479 [xA 51 0, xA 6 1, xA 7 2, xI x3] [xI s1, xI s0] w Q := by
  refine x_goN 1 (pc' := if s0 = s1 then 1106 else 482) (ls' := [xA 51 0, xA 6 1, xA 7 2, xI x3]) (st' := []) (w' := w) rfl ?_
  refine x_br (fun c1 => ?_) (fun c1 => ?_)
  · skip
    exact (h.1 c1)
  · skip
    refine x_goN 1 (pc' := 483) (ls' := [xA 51 0, xA 6 1, xA 7 2, xI x3]) (st' := [xI 0]) (w' := w) rfl ?_
    exact x_ret (P := (0 : Int32) = 0 ∨ (0 : Int32) = 1) rfl (by decide) (h.2 c1)
set_option maxRecDepth 100000 in
theorem G_Lw_law_484 {d : Nat} {x3 : Int32} {w : xWd} {Q : xMV → xWd → Prop} (h : (vp_in (x3 + 1) (w 4 0).toNatClampNeg ∧ xWp (d + 6) m_Vp_most 0 [xA 6 1, xI (w 0 (x3 + 1).toNatClampNeg)] [] w (fun a w' => xWp (d + 7) m_Lw_law 493 [xA 51 0, xA 6 1, xA 7 2, xI x3] (x_pu a []) w' Q))) : xWp (d + 7) m_Lw_law 484 [xA 51 0, xA 6 1, xA 7 2, xI x3] [] w Q := by
  refine x_goN 5 (pc' := 489) (ls' := [xA 51 0, xA 6 1, xA 7 2, xI x3]) (st' := [xI (x3 + 1), xA 51 0, xA 6 1]) (w' := w) rfl ?_
  refine x_ob (P := 0 = 0 ∧ vp_in (x3 + 1) (w 4 0).toNatClampNeg) (pc' := 490) (ls' := [xA 51 0, xA 6 1, xA 7 2, xI x3]) (st' := [xI (w 0 (x3 + 1).toNatClampNeg), xA 6 1]) (w' := w) rfl ⟨rfl, h.1⟩ ?_
  refine x_call (y := m_Vp_most) (as := [xA 6 1, xI (w 0 (x3 + 1).toNatClampNeg)]) (rst := []) rfl [xA 6 1, xI (w 0 (x3 + 1).toNatClampNeg)] rfl ?_
  exact h.2
set_option maxRecDepth 100000 in
theorem G_Lw_law_493 {d : Nat} {x3 : Int32} {s0 : Int32} {w : xWd} {Q : xMV → xWd → Prop} (h : (vp_in (x3 + 1) (w 4 0).toNatClampNeg ∧ xWp (d + 6) m_Md_most 0 [xA 7 2, xI (w 0 (x3 + 1).toNatClampNeg)] [] w (fun a w' => xWp (d + 7) m_Lw_law 502 [xA 51 0, xA 6 1, xA 7 2, xI x3] (x_pu a [xI s0]) w' Q))) : xWp (d + 7) m_Lw_law 493 [xA 51 0, xA 6 1, xA 7 2, xI x3] [xI s0] w Q := by
  refine x_goN 5 (pc' := 498) (ls' := [xA 51 0, xA 6 1, xA 7 2, xI x3]) (st' := [xI (x3 + 1), xA 51 0, xA 7 2, xI s0]) (w' := w) rfl ?_
  refine x_ob (P := 0 = 0 ∧ vp_in (x3 + 1) (w 4 0).toNatClampNeg) (pc' := 499) (ls' := [xA 51 0, xA 6 1, xA 7 2, xI x3]) (st' := [xI (w 0 (x3 + 1).toNatClampNeg), xA 7 2, xI s0]) (w' := w) rfl ⟨rfl, h.1⟩ ?_
  refine x_call (y := m_Md_most) (as := [xA 7 2, xI (w 0 (x3 + 1).toNatClampNeg)]) (rst := [xI s0]) rfl [xA 7 2, xI (w 0 (x3 + 1).toNatClampNeg)] rfl ?_
  exact h.2
set_option maxRecDepth 100000 in
theorem G_Lw_law_502 {d : Nat} {x3 : Int32} {s1 : Int32} {s0 : Int32} {w : xWd} {Q : xMV → xWd → Prop} (h : ((s0 = s1 → xWp (d + 7) m_Lw_law 1106 [xA 51 0, xA 6 1, xA 7 2, xI x3] [] w Q) ∧ (¬ (s0 = s1) → Q (xI 0) w))) : xWp (d + 7) m_Lw_law 502 [xA 51 0, xA 6 1, xA 7 2, xI x3] [xI s1, xI s0] w Q := by
  refine x_goN 1 (pc' := if s0 = s1 then 1106 else 505) (ls' := [xA 51 0, xA 6 1, xA 7 2, xI x3]) (st' := []) (w' := w) rfl ?_
  refine x_br (fun c1 => ?_) (fun c1 => ?_)
  · skip
    exact (h.1 c1)
  · skip
    refine x_goN 1 (pc' := 506) (ls' := [xA 51 0, xA 6 1, xA 7 2, xI x3]) (st' := [xI 0]) (w' := w) rfl ?_
    exact x_ret (P := (0 : Int32) = 0 ∨ (0 : Int32) = 1) rfl (by decide) (h.2 c1)
set_option maxRecDepth 100000 in
theorem G_Lw_law_507 {d : Nat} {x3 : Int32} {w : xWd} {Q : xMV → xWd → Prop} (h : (vp_in (x3 + 1) (w 4 0).toNatClampNeg ∧ (vp_in (x3 + 2) (w 4 0).toNatClampNeg ∧ xWp (d + 6) m_Vp_next 0 [xA 6 1, xI (w 0 (x3 + 1).toNatClampNeg), xI (w 0 (x3 + 2).toNatClampNeg)] [] w (fun a w' => xWp (d + 7) m_Lw_law 521 [xA 51 0, xA 6 1, xA 7 2, xI x3] (x_pu a []) w' Q)))) : xWp (d + 7) m_Lw_law 507 [xA 51 0, xA 6 1, xA 7 2, xI x3] [] w Q := by
  refine x_goN 5 (pc' := 512) (ls' := [xA 51 0, xA 6 1, xA 7 2, xI x3]) (st' := [xI (x3 + 1), xA 51 0, xA 6 1]) (w' := w) rfl ?_
  refine x_ob (P := 0 = 0 ∧ vp_in (x3 + 1) (w 4 0).toNatClampNeg) (pc' := 513) (ls' := [xA 51 0, xA 6 1, xA 7 2, xI x3]) (st' := [xI (w 0 (x3 + 1).toNatClampNeg), xA 6 1]) (w' := w) rfl ⟨rfl, h.1⟩ ?_
  refine x_goN 4 (pc' := 517) (ls' := [xA 51 0, xA 6 1, xA 7 2, xI x3]) (st' := [xI (x3 + 2), xA 51 0, xI (w 0 (x3 + 1).toNatClampNeg), xA 6 1]) (w' := w) rfl ?_
  refine x_ob (P := 0 = 0 ∧ vp_in (x3 + 2) (w 4 0).toNatClampNeg) (pc' := 518) (ls' := [xA 51 0, xA 6 1, xA 7 2, xI x3]) (st' := [xI (w 0 (x3 + 2).toNatClampNeg), xI (w 0 (x3 + 1).toNatClampNeg), xA 6 1]) (w' := w) rfl ⟨rfl, h.2.1⟩ ?_
  refine x_call (y := m_Vp_next) (as := [xA 6 1, xI (w 0 (x3 + 1).toNatClampNeg), xI (w 0 (x3 + 2).toNatClampNeg)]) (rst := []) rfl [xA 6 1, xI (w 0 (x3 + 1).toNatClampNeg), xI (w 0 (x3 + 2).toNatClampNeg)] rfl ?_
  exact h.2.2
set_option maxRecDepth 100000 in
theorem G_Lw_law_521 {d : Nat} {x3 : Int32} {s0 : Int32} {w : xWd} {Q : xMV → xWd → Prop} (h : (vp_in (x3 + 1) (w 4 0).toNatClampNeg ∧ (vp_in (x3 + 2) (w 4 0).toNatClampNeg ∧ xWp (d + 6) m_Md_next 0 [xA 7 2, xI (w 0 (x3 + 1).toNatClampNeg), xI (w 0 (x3 + 2).toNatClampNeg)] [] w (fun a w' => xWp (d + 7) m_Lw_law 535 [xA 51 0, xA 6 1, xA 7 2, xI x3] (x_pu a [xI s0]) w' Q)))) : xWp (d + 7) m_Lw_law 521 [xA 51 0, xA 6 1, xA 7 2, xI x3] [xI s0] w Q := by
  refine x_goN 5 (pc' := 526) (ls' := [xA 51 0, xA 6 1, xA 7 2, xI x3]) (st' := [xI (x3 + 1), xA 51 0, xA 7 2, xI s0]) (w' := w) rfl ?_
  refine x_ob (P := 0 = 0 ∧ vp_in (x3 + 1) (w 4 0).toNatClampNeg) (pc' := 527) (ls' := [xA 51 0, xA 6 1, xA 7 2, xI x3]) (st' := [xI (w 0 (x3 + 1).toNatClampNeg), xA 7 2, xI s0]) (w' := w) rfl ⟨rfl, h.1⟩ ?_
  refine x_goN 4 (pc' := 531) (ls' := [xA 51 0, xA 6 1, xA 7 2, xI x3]) (st' := [xI (x3 + 2), xA 51 0, xI (w 0 (x3 + 1).toNatClampNeg), xA 7 2, xI s0]) (w' := w) rfl ?_
  refine x_ob (P := 0 = 0 ∧ vp_in (x3 + 2) (w 4 0).toNatClampNeg) (pc' := 532) (ls' := [xA 51 0, xA 6 1, xA 7 2, xI x3]) (st' := [xI (w 0 (x3 + 2).toNatClampNeg), xI (w 0 (x3 + 1).toNatClampNeg), xA 7 2, xI s0]) (w' := w) rfl ⟨rfl, h.2.1⟩ ?_
  refine x_call (y := m_Md_next) (as := [xA 7 2, xI (w 0 (x3 + 1).toNatClampNeg), xI (w 0 (x3 + 2).toNatClampNeg)]) (rst := [xI s0]) rfl [xA 7 2, xI (w 0 (x3 + 1).toNatClampNeg), xI (w 0 (x3 + 2).toNatClampNeg)] rfl ?_
  exact h.2.2
set_option maxRecDepth 100000 in
theorem G_Lw_law_535 {d : Nat} {x3 : Int32} {s1 : Int32} {s0 : Int32} {w : xWd} {Q : xMV → xWd → Prop} (h : ((s0 = s1 → xWp (d + 7) m_Lw_law 1106 [xA 51 0, xA 6 1, xA 7 2, xI x3] [] w Q) ∧ (¬ (s0 = s1) → Q (xI 0) w))) : xWp (d + 7) m_Lw_law 535 [xA 51 0, xA 6 1, xA 7 2, xI x3] [xI s1, xI s0] w Q := by
  refine x_goN 1 (pc' := if s0 = s1 then 1106 else 538) (ls' := [xA 51 0, xA 6 1, xA 7 2, xI x3]) (st' := []) (w' := w) rfl ?_
  refine x_br (fun c1 => ?_) (fun c1 => ?_)
  · skip
    exact (h.1 c1)
  · skip
    refine x_goN 1 (pc' := 539) (ls' := [xA 51 0, xA 6 1, xA 7 2, xI x3]) (st' := [xI 0]) (w' := w) rfl ?_
    exact x_ret (P := (0 : Int32) = 0 ∨ (0 : Int32) = 1) rfl (by decide) (h.2 c1)
set_option maxRecDepth 100000 in
theorem G_Lw_law_540 {d : Nat} {x3 : Int32} {w : xWd} {Q : xMV → xWd → Prop} (h : (vp_in (x3 + 1) (w 4 0).toNatClampNeg ∧ (vp_in (x3 + 2) (w 4 0).toNatClampNeg ∧ xWp (d + 6) m_Vp_hold 0 [xA 6 1, xI (w 0 (x3 + 1).toNatClampNeg), xI (w 0 (x3 + 2).toNatClampNeg)] [] w (fun a w' => xWp (d + 7) m_Lw_law 554 [xA 51 0, xA 6 1, xA 7 2, xI x3] (x_pu a []) w' Q)))) : xWp (d + 7) m_Lw_law 540 [xA 51 0, xA 6 1, xA 7 2, xI x3] [] w Q := by
  refine x_goN 5 (pc' := 545) (ls' := [xA 51 0, xA 6 1, xA 7 2, xI x3]) (st' := [xI (x3 + 1), xA 51 0, xA 6 1]) (w' := w) rfl ?_
  refine x_ob (P := 0 = 0 ∧ vp_in (x3 + 1) (w 4 0).toNatClampNeg) (pc' := 546) (ls' := [xA 51 0, xA 6 1, xA 7 2, xI x3]) (st' := [xI (w 0 (x3 + 1).toNatClampNeg), xA 6 1]) (w' := w) rfl ⟨rfl, h.1⟩ ?_
  refine x_goN 4 (pc' := 550) (ls' := [xA 51 0, xA 6 1, xA 7 2, xI x3]) (st' := [xI (x3 + 2), xA 51 0, xI (w 0 (x3 + 1).toNatClampNeg), xA 6 1]) (w' := w) rfl ?_
  refine x_ob (P := 0 = 0 ∧ vp_in (x3 + 2) (w 4 0).toNatClampNeg) (pc' := 551) (ls' := [xA 51 0, xA 6 1, xA 7 2, xI x3]) (st' := [xI (w 0 (x3 + 2).toNatClampNeg), xI (w 0 (x3 + 1).toNatClampNeg), xA 6 1]) (w' := w) rfl ⟨rfl, h.2.1⟩ ?_
  refine x_call (y := m_Vp_hold) (as := [xA 6 1, xI (w 0 (x3 + 1).toNatClampNeg), xI (w 0 (x3 + 2).toNatClampNeg)]) (rst := []) rfl [xA 6 1, xI (w 0 (x3 + 1).toNatClampNeg), xI (w 0 (x3 + 2).toNatClampNeg)] rfl ?_
  exact h.2.2
set_option maxRecDepth 100000 in
theorem G_Lw_law_554 {d : Nat} {x3 : Int32} {s0 : Int32} {w : xWd} {Q : xMV → xWd → Prop} (h : (vp_in (x3 + 1) (w 4 0).toNatClampNeg ∧ (vp_in (x3 + 2) (w 4 0).toNatClampNeg ∧ xWp (d + 6) m_Md_hold 0 [xA 7 2, xI (w 0 (x3 + 1).toNatClampNeg), xI (w 0 (x3 + 2).toNatClampNeg)] [] w (fun a w' => xWp (d + 7) m_Lw_law 568 [xA 51 0, xA 6 1, xA 7 2, xI x3] (x_pu a [xI s0]) w' Q)))) : xWp (d + 7) m_Lw_law 554 [xA 51 0, xA 6 1, xA 7 2, xI x3] [xI s0] w Q := by
  refine x_goN 5 (pc' := 559) (ls' := [xA 51 0, xA 6 1, xA 7 2, xI x3]) (st' := [xI (x3 + 1), xA 51 0, xA 7 2, xI s0]) (w' := w) rfl ?_
  refine x_ob (P := 0 = 0 ∧ vp_in (x3 + 1) (w 4 0).toNatClampNeg) (pc' := 560) (ls' := [xA 51 0, xA 6 1, xA 7 2, xI x3]) (st' := [xI (w 0 (x3 + 1).toNatClampNeg), xA 7 2, xI s0]) (w' := w) rfl ⟨rfl, h.1⟩ ?_
  refine x_goN 4 (pc' := 564) (ls' := [xA 51 0, xA 6 1, xA 7 2, xI x3]) (st' := [xI (x3 + 2), xA 51 0, xI (w 0 (x3 + 1).toNatClampNeg), xA 7 2, xI s0]) (w' := w) rfl ?_
  refine x_ob (P := 0 = 0 ∧ vp_in (x3 + 2) (w 4 0).toNatClampNeg) (pc' := 565) (ls' := [xA 51 0, xA 6 1, xA 7 2, xI x3]) (st' := [xI (w 0 (x3 + 2).toNatClampNeg), xI (w 0 (x3 + 1).toNatClampNeg), xA 7 2, xI s0]) (w' := w) rfl ⟨rfl, h.2.1⟩ ?_
  refine x_call (y := m_Md_hold) (as := [xA 7 2, xI (w 0 (x3 + 1).toNatClampNeg), xI (w 0 (x3 + 2).toNatClampNeg)]) (rst := [xI s0]) rfl [xA 7 2, xI (w 0 (x3 + 1).toNatClampNeg), xI (w 0 (x3 + 2).toNatClampNeg)] rfl ?_
  exact h.2.2
set_option maxRecDepth 100000 in
theorem G_Lw_law_568 {d : Nat} {x3 : Int32} {s1 : Int32} {s0 : Int32} {w : xWd} {Q : xMV → xWd → Prop} (h : ((s0 = s1 → xWp (d + 7) m_Lw_law 1106 [xA 51 0, xA 6 1, xA 7 2, xI x3] [] w Q) ∧ (¬ (s0 = s1) → Q (xI 0) w))) : xWp (d + 7) m_Lw_law 568 [xA 51 0, xA 6 1, xA 7 2, xI x3] [xI s1, xI s0] w Q := by
  refine x_goN 1 (pc' := if s0 = s1 then 1106 else 571) (ls' := [xA 51 0, xA 6 1, xA 7 2, xI x3]) (st' := []) (w' := w) rfl ?_
  refine x_br (fun c1 => ?_) (fun c1 => ?_)
  · skip
    exact (h.1 c1)
  · skip
    refine x_goN 1 (pc' := 572) (ls' := [xA 51 0, xA 6 1, xA 7 2, xI x3]) (st' := [xI 0]) (w' := w) rfl ?_
    exact x_ret (P := (0 : Int32) = 0 ∨ (0 : Int32) = 1) rfl (by decide) (h.2 c1)
set_option maxRecDepth 100000 in
theorem G_Lw_law_573 {d : Nat} {x3 : Int32} {w : xWd} {Q : xMV → xWd → Prop} (h : (vp_in (x3 + 1) (w 4 0).toNatClampNeg ∧ (vp_in (x3 + 2) (w 4 0).toNatClampNeg ∧ (vp_in (x3 + 3) (w 4 0).toNatClampNeg ∧ (vp_in (x3 + 4) (w 4 0).toNatClampNeg ∧ (vp_in (x3 + 5) (w 4 0).toNatClampNeg ∧ xWp (d + 6) m_Vp_copies 0 [xA 6 1, xI (w 0 (x3 + 1).toNatClampNeg), xI (w 0 (x3 + 2).toNatClampNeg), xI (w 0 (x3 + 3).toNatClampNeg), xI (w 0 (x3 + 4).toNatClampNeg), xI (w 0 (x3 + 5).toNatClampNeg), xU] [] w (fun a w' => xWp (d + 7) m_Lw_law 602 [xA 51 0, xA 6 1, xA 7 2, xI x3] (x_pu a []) w' Q))))))) : xWp (d + 7) m_Lw_law 573 [xA 51 0, xA 6 1, xA 7 2, xI x3] [] w Q := by
  refine x_goN 5 (pc' := 578) (ls' := [xA 51 0, xA 6 1, xA 7 2, xI x3]) (st' := [xI (x3 + 1), xA 51 0, xA 6 1]) (w' := w) rfl ?_
  refine x_ob (P := 0 = 0 ∧ vp_in (x3 + 1) (w 4 0).toNatClampNeg) (pc' := 579) (ls' := [xA 51 0, xA 6 1, xA 7 2, xI x3]) (st' := [xI (w 0 (x3 + 1).toNatClampNeg), xA 6 1]) (w' := w) rfl ⟨rfl, h.1⟩ ?_
  refine x_goN 4 (pc' := 583) (ls' := [xA 51 0, xA 6 1, xA 7 2, xI x3]) (st' := [xI (x3 + 2), xA 51 0, xI (w 0 (x3 + 1).toNatClampNeg), xA 6 1]) (w' := w) rfl ?_
  refine x_ob (P := 0 = 0 ∧ vp_in (x3 + 2) (w 4 0).toNatClampNeg) (pc' := 584) (ls' := [xA 51 0, xA 6 1, xA 7 2, xI x3]) (st' := [xI (w 0 (x3 + 2).toNatClampNeg), xI (w 0 (x3 + 1).toNatClampNeg), xA 6 1]) (w' := w) rfl ⟨rfl, h.2.1⟩ ?_
  refine x_goN 4 (pc' := 588) (ls' := [xA 51 0, xA 6 1, xA 7 2, xI x3]) (st' := [xI (x3 + 3), xA 51 0, xI (w 0 (x3 + 2).toNatClampNeg), xI (w 0 (x3 + 1).toNatClampNeg), xA 6 1]) (w' := w) rfl ?_
  refine x_ob (P := 0 = 0 ∧ vp_in (x3 + 3) (w 4 0).toNatClampNeg) (pc' := 589) (ls' := [xA 51 0, xA 6 1, xA 7 2, xI x3]) (st' := [xI (w 0 (x3 + 3).toNatClampNeg), xI (w 0 (x3 + 2).toNatClampNeg), xI (w 0 (x3 + 1).toNatClampNeg), xA 6 1]) (w' := w) rfl ⟨rfl, h.2.2.1⟩ ?_
  refine x_goN 4 (pc' := 593) (ls' := [xA 51 0, xA 6 1, xA 7 2, xI x3]) (st' := [xI (x3 + 4), xA 51 0, xI (w 0 (x3 + 3).toNatClampNeg), xI (w 0 (x3 + 2).toNatClampNeg), xI (w 0 (x3 + 1).toNatClampNeg), xA 6 1]) (w' := w) rfl ?_
  refine x_ob (P := 0 = 0 ∧ vp_in (x3 + 4) (w 4 0).toNatClampNeg) (pc' := 594) (ls' := [xA 51 0, xA 6 1, xA 7 2, xI x3]) (st' := [xI (w 0 (x3 + 4).toNatClampNeg), xI (w 0 (x3 + 3).toNatClampNeg), xI (w 0 (x3 + 2).toNatClampNeg), xI (w 0 (x3 + 1).toNatClampNeg), xA 6 1]) (w' := w) rfl ⟨rfl, h.2.2.2.1⟩ ?_
  refine x_goN 4 (pc' := 598) (ls' := [xA 51 0, xA 6 1, xA 7 2, xI x3]) (st' := [xI (x3 + 5), xA 51 0, xI (w 0 (x3 + 4).toNatClampNeg), xI (w 0 (x3 + 3).toNatClampNeg), xI (w 0 (x3 + 2).toNatClampNeg), xI (w 0 (x3 + 1).toNatClampNeg), xA 6 1]) (w' := w) rfl ?_
  refine x_ob (P := 0 = 0 ∧ vp_in (x3 + 5) (w 4 0).toNatClampNeg) (pc' := 599) (ls' := [xA 51 0, xA 6 1, xA 7 2, xI x3]) (st' := [xI (w 0 (x3 + 5).toNatClampNeg), xI (w 0 (x3 + 4).toNatClampNeg), xI (w 0 (x3 + 3).toNatClampNeg), xI (w 0 (x3 + 2).toNatClampNeg), xI (w 0 (x3 + 1).toNatClampNeg), xA 6 1]) (w' := w) rfl ⟨rfl, h.2.2.2.2.1⟩ ?_
  refine x_call (y := m_Vp_copies) (as := [xA 6 1, xI (w 0 (x3 + 1).toNatClampNeg), xI (w 0 (x3 + 2).toNatClampNeg), xI (w 0 (x3 + 3).toNatClampNeg), xI (w 0 (x3 + 4).toNatClampNeg), xI (w 0 (x3 + 5).toNatClampNeg)]) (rst := []) rfl [xA 6 1, xI (w 0 (x3 + 1).toNatClampNeg), xI (w 0 (x3 + 2).toNatClampNeg), xI (w 0 (x3 + 3).toNatClampNeg), xI (w 0 (x3 + 4).toNatClampNeg), xI (w 0 (x3 + 5).toNatClampNeg), xU] rfl ?_
  exact h.2.2.2.2.2
set_option maxRecDepth 100000 in
theorem G_Lw_law_602 {d : Nat} {x3 : Int32} {s0 : Int32} {w : xWd} {Q : xMV → xWd → Prop} (h : (vp_in (x3 + 1) (w 4 0).toNatClampNeg ∧ (vp_in (x3 + 2) (w 4 0).toNatClampNeg ∧ (vp_in (x3 + 3) (w 4 0).toNatClampNeg ∧ (vp_in (x3 + 4) (w 4 0).toNatClampNeg ∧ (vp_in (x3 + 5) (w 4 0).toNatClampNeg ∧ xWp (d + 6) m_Md_copies 0 [xA 7 2, xI (w 0 (x3 + 1).toNatClampNeg), xI (w 0 (x3 + 2).toNatClampNeg), xI (w 0 (x3 + 3).toNatClampNeg), xI (w 0 (x3 + 4).toNatClampNeg), xI (w 0 (x3 + 5).toNatClampNeg), xU, xU] [] w (fun a w' => xWp (d + 7) m_Lw_law 631 [xA 51 0, xA 6 1, xA 7 2, xI x3] (x_pu a [xI s0]) w' Q))))))) : xWp (d + 7) m_Lw_law 602 [xA 51 0, xA 6 1, xA 7 2, xI x3] [xI s0] w Q := by
  refine x_goN 5 (pc' := 607) (ls' := [xA 51 0, xA 6 1, xA 7 2, xI x3]) (st' := [xI (x3 + 1), xA 51 0, xA 7 2, xI s0]) (w' := w) rfl ?_
  refine x_ob (P := 0 = 0 ∧ vp_in (x3 + 1) (w 4 0).toNatClampNeg) (pc' := 608) (ls' := [xA 51 0, xA 6 1, xA 7 2, xI x3]) (st' := [xI (w 0 (x3 + 1).toNatClampNeg), xA 7 2, xI s0]) (w' := w) rfl ⟨rfl, h.1⟩ ?_
  refine x_goN 4 (pc' := 612) (ls' := [xA 51 0, xA 6 1, xA 7 2, xI x3]) (st' := [xI (x3 + 2), xA 51 0, xI (w 0 (x3 + 1).toNatClampNeg), xA 7 2, xI s0]) (w' := w) rfl ?_
  refine x_ob (P := 0 = 0 ∧ vp_in (x3 + 2) (w 4 0).toNatClampNeg) (pc' := 613) (ls' := [xA 51 0, xA 6 1, xA 7 2, xI x3]) (st' := [xI (w 0 (x3 + 2).toNatClampNeg), xI (w 0 (x3 + 1).toNatClampNeg), xA 7 2, xI s0]) (w' := w) rfl ⟨rfl, h.2.1⟩ ?_
  refine x_goN 4 (pc' := 617) (ls' := [xA 51 0, xA 6 1, xA 7 2, xI x3]) (st' := [xI (x3 + 3), xA 51 0, xI (w 0 (x3 + 2).toNatClampNeg), xI (w 0 (x3 + 1).toNatClampNeg), xA 7 2, xI s0]) (w' := w) rfl ?_
  refine x_ob (P := 0 = 0 ∧ vp_in (x3 + 3) (w 4 0).toNatClampNeg) (pc' := 618) (ls' := [xA 51 0, xA 6 1, xA 7 2, xI x3]) (st' := [xI (w 0 (x3 + 3).toNatClampNeg), xI (w 0 (x3 + 2).toNatClampNeg), xI (w 0 (x3 + 1).toNatClampNeg), xA 7 2, xI s0]) (w' := w) rfl ⟨rfl, h.2.2.1⟩ ?_
  refine x_goN 4 (pc' := 622) (ls' := [xA 51 0, xA 6 1, xA 7 2, xI x3]) (st' := [xI (x3 + 4), xA 51 0, xI (w 0 (x3 + 3).toNatClampNeg), xI (w 0 (x3 + 2).toNatClampNeg), xI (w 0 (x3 + 1).toNatClampNeg), xA 7 2, xI s0]) (w' := w) rfl ?_
  refine x_ob (P := 0 = 0 ∧ vp_in (x3 + 4) (w 4 0).toNatClampNeg) (pc' := 623) (ls' := [xA 51 0, xA 6 1, xA 7 2, xI x3]) (st' := [xI (w 0 (x3 + 4).toNatClampNeg), xI (w 0 (x3 + 3).toNatClampNeg), xI (w 0 (x3 + 2).toNatClampNeg), xI (w 0 (x3 + 1).toNatClampNeg), xA 7 2, xI s0]) (w' := w) rfl ⟨rfl, h.2.2.2.1⟩ ?_
  refine x_goN 4 (pc' := 627) (ls' := [xA 51 0, xA 6 1, xA 7 2, xI x3]) (st' := [xI (x3 + 5), xA 51 0, xI (w 0 (x3 + 4).toNatClampNeg), xI (w 0 (x3 + 3).toNatClampNeg), xI (w 0 (x3 + 2).toNatClampNeg), xI (w 0 (x3 + 1).toNatClampNeg), xA 7 2, xI s0]) (w' := w) rfl ?_
  refine x_ob (P := 0 = 0 ∧ vp_in (x3 + 5) (w 4 0).toNatClampNeg) (pc' := 628) (ls' := [xA 51 0, xA 6 1, xA 7 2, xI x3]) (st' := [xI (w 0 (x3 + 5).toNatClampNeg), xI (w 0 (x3 + 4).toNatClampNeg), xI (w 0 (x3 + 3).toNatClampNeg), xI (w 0 (x3 + 2).toNatClampNeg), xI (w 0 (x3 + 1).toNatClampNeg), xA 7 2, xI s0]) (w' := w) rfl ⟨rfl, h.2.2.2.2.1⟩ ?_
  refine x_call (y := m_Md_copies) (as := [xA 7 2, xI (w 0 (x3 + 1).toNatClampNeg), xI (w 0 (x3 + 2).toNatClampNeg), xI (w 0 (x3 + 3).toNatClampNeg), xI (w 0 (x3 + 4).toNatClampNeg), xI (w 0 (x3 + 5).toNatClampNeg)]) (rst := [xI s0]) rfl [xA 7 2, xI (w 0 (x3 + 1).toNatClampNeg), xI (w 0 (x3 + 2).toNatClampNeg), xI (w 0 (x3 + 3).toNatClampNeg), xI (w 0 (x3 + 4).toNatClampNeg), xI (w 0 (x3 + 5).toNatClampNeg), xU, xU] rfl ?_
  exact h.2.2.2.2.2
set_option maxRecDepth 100000 in
theorem G_Lw_law_631 {d : Nat} {x3 : Int32} {s1 : Int32} {s0 : Int32} {w : xWd} {Q : xMV → xWd → Prop} (h : ((s0 = s1 → xWp (d + 7) m_Lw_law 1106 [xA 51 0, xA 6 1, xA 7 2, xI x3] [] w Q) ∧ (¬ (s0 = s1) → Q (xI 0) w))) : xWp (d + 7) m_Lw_law 631 [xA 51 0, xA 6 1, xA 7 2, xI x3] [xI s1, xI s0] w Q := by
  refine x_goN 1 (pc' := if s0 = s1 then 1106 else 634) (ls' := [xA 51 0, xA 6 1, xA 7 2, xI x3]) (st' := []) (w' := w) rfl ?_
  refine x_br (fun c1 => ?_) (fun c1 => ?_)
  · skip
    exact (h.1 c1)
  · skip
    refine x_goN 1 (pc' := 635) (ls' := [xA 51 0, xA 6 1, xA 7 2, xI x3]) (st' := [xI 0]) (w' := w) rfl ?_
    exact x_ret (P := (0 : Int32) = 0 ∨ (0 : Int32) = 1) rfl (by decide) (h.2 c1)
set_option maxRecDepth 100000 in
theorem G_Lw_law_636 {d : Nat} {x3 : Int32} {w : xWd} {Q : xMV → xWd → Prop} (h : (vp_in (x3 + 1) (w 4 0).toNatClampNeg ∧ (vp_in (x3 + 2) (w 4 0).toNatClampNeg ∧ xWp (d + 6) m_Vp_reading 0 [xA 6 1, xI (w 0 (x3 + 1).toNatClampNeg), xI (w 0 (x3 + 2).toNatClampNeg), xU] [] w (fun a w' => xWp (d + 7) m_Lw_law 650 [xA 51 0, xA 6 1, xA 7 2, xI x3] (x_pu a []) w' Q)))) : xWp (d + 7) m_Lw_law 636 [xA 51 0, xA 6 1, xA 7 2, xI x3] [] w Q := by
  refine x_goN 5 (pc' := 641) (ls' := [xA 51 0, xA 6 1, xA 7 2, xI x3]) (st' := [xI (x3 + 1), xA 51 0, xA 6 1]) (w' := w) rfl ?_
  refine x_ob (P := 0 = 0 ∧ vp_in (x3 + 1) (w 4 0).toNatClampNeg) (pc' := 642) (ls' := [xA 51 0, xA 6 1, xA 7 2, xI x3]) (st' := [xI (w 0 (x3 + 1).toNatClampNeg), xA 6 1]) (w' := w) rfl ⟨rfl, h.1⟩ ?_
  refine x_goN 4 (pc' := 646) (ls' := [xA 51 0, xA 6 1, xA 7 2, xI x3]) (st' := [xI (x3 + 2), xA 51 0, xI (w 0 (x3 + 1).toNatClampNeg), xA 6 1]) (w' := w) rfl ?_
  refine x_ob (P := 0 = 0 ∧ vp_in (x3 + 2) (w 4 0).toNatClampNeg) (pc' := 647) (ls' := [xA 51 0, xA 6 1, xA 7 2, xI x3]) (st' := [xI (w 0 (x3 + 2).toNatClampNeg), xI (w 0 (x3 + 1).toNatClampNeg), xA 6 1]) (w' := w) rfl ⟨rfl, h.2.1⟩ ?_
  refine x_call (y := m_Vp_reading) (as := [xA 6 1, xI (w 0 (x3 + 1).toNatClampNeg), xI (w 0 (x3 + 2).toNatClampNeg)]) (rst := []) rfl [xA 6 1, xI (w 0 (x3 + 1).toNatClampNeg), xI (w 0 (x3 + 2).toNatClampNeg), xU] rfl ?_
  exact h.2.2
set_option maxRecDepth 100000 in
theorem G_Lw_law_650 {d : Nat} {x3 : Int32} {s0 : Int32} {w : xWd} {Q : xMV → xWd → Prop} (h : (vp_in (x3 + 1) (w 4 0).toNatClampNeg ∧ (vp_in (x3 + 2) (w 4 0).toNatClampNeg ∧ xWp (d + 6) m_Md_reading 0 [xA 7 2, xI (w 0 (x3 + 1).toNatClampNeg), xI (w 0 (x3 + 2).toNatClampNeg)] [] w (fun a w' => xWp (d + 7) m_Lw_law 664 [xA 51 0, xA 6 1, xA 7 2, xI x3] (x_pu a [xI s0]) w' Q)))) : xWp (d + 7) m_Lw_law 650 [xA 51 0, xA 6 1, xA 7 2, xI x3] [xI s0] w Q := by
  refine x_goN 5 (pc' := 655) (ls' := [xA 51 0, xA 6 1, xA 7 2, xI x3]) (st' := [xI (x3 + 1), xA 51 0, xA 7 2, xI s0]) (w' := w) rfl ?_
  refine x_ob (P := 0 = 0 ∧ vp_in (x3 + 1) (w 4 0).toNatClampNeg) (pc' := 656) (ls' := [xA 51 0, xA 6 1, xA 7 2, xI x3]) (st' := [xI (w 0 (x3 + 1).toNatClampNeg), xA 7 2, xI s0]) (w' := w) rfl ⟨rfl, h.1⟩ ?_
  refine x_goN 4 (pc' := 660) (ls' := [xA 51 0, xA 6 1, xA 7 2, xI x3]) (st' := [xI (x3 + 2), xA 51 0, xI (w 0 (x3 + 1).toNatClampNeg), xA 7 2, xI s0]) (w' := w) rfl ?_
  refine x_ob (P := 0 = 0 ∧ vp_in (x3 + 2) (w 4 0).toNatClampNeg) (pc' := 661) (ls' := [xA 51 0, xA 6 1, xA 7 2, xI x3]) (st' := [xI (w 0 (x3 + 2).toNatClampNeg), xI (w 0 (x3 + 1).toNatClampNeg), xA 7 2, xI s0]) (w' := w) rfl ⟨rfl, h.2.1⟩ ?_
  refine x_call (y := m_Md_reading) (as := [xA 7 2, xI (w 0 (x3 + 1).toNatClampNeg), xI (w 0 (x3 + 2).toNatClampNeg)]) (rst := [xI s0]) rfl [xA 7 2, xI (w 0 (x3 + 1).toNatClampNeg), xI (w 0 (x3 + 2).toNatClampNeg)] rfl ?_
  exact h.2.2
set_option maxRecDepth 100000 in
theorem G_Lw_law_664 {d : Nat} {x3 : Int32} {s1 : Int32} {s0 : Int32} {w : xWd} {Q : xMV → xWd → Prop} (h : ((s0 = s1 → xWp (d + 7) m_Lw_law 1106 [xA 51 0, xA 6 1, xA 7 2, xI x3] [] w Q) ∧ (¬ (s0 = s1) → Q (xI 0) w))) : xWp (d + 7) m_Lw_law 664 [xA 51 0, xA 6 1, xA 7 2, xI x3] [xI s1, xI s0] w Q := by
  refine x_goN 1 (pc' := if s0 = s1 then 1106 else 667) (ls' := [xA 51 0, xA 6 1, xA 7 2, xI x3]) (st' := []) (w' := w) rfl ?_
  refine x_br (fun c1 => ?_) (fun c1 => ?_)
  · skip
    exact (h.1 c1)
  · skip
    refine x_goN 1 (pc' := 668) (ls' := [xA 51 0, xA 6 1, xA 7 2, xI x3]) (st' := [xI 0]) (w' := w) rfl ?_
    exact x_ret (P := (0 : Int32) = 0 ∨ (0 : Int32) = 1) rfl (by decide) (h.2 c1)
set_option maxRecDepth 100000 in
theorem G_Lw_law_669 {d : Nat} {x3 : Int32} {w : xWd} {Q : xMV → xWd → Prop} (h : (vp_in (x3 + 1) (w 4 0).toNatClampNeg ∧ xWp (d + 6) m_Vp_back 0 [xA 6 1, xI (w 0 (x3 + 1).toNatClampNeg)] [] w (fun a w' => xWp (d + 7) m_Lw_law 678 [xA 51 0, xA 6 1, xA 7 2, xI x3] (x_pu a []) w' Q))) : xWp (d + 7) m_Lw_law 669 [xA 51 0, xA 6 1, xA 7 2, xI x3] [] w Q := by
  refine x_goN 5 (pc' := 674) (ls' := [xA 51 0, xA 6 1, xA 7 2, xI x3]) (st' := [xI (x3 + 1), xA 51 0, xA 6 1]) (w' := w) rfl ?_
  refine x_ob (P := 0 = 0 ∧ vp_in (x3 + 1) (w 4 0).toNatClampNeg) (pc' := 675) (ls' := [xA 51 0, xA 6 1, xA 7 2, xI x3]) (st' := [xI (w 0 (x3 + 1).toNatClampNeg), xA 6 1]) (w' := w) rfl ⟨rfl, h.1⟩ ?_
  refine x_call (y := m_Vp_back) (as := [xA 6 1, xI (w 0 (x3 + 1).toNatClampNeg)]) (rst := []) rfl [xA 6 1, xI (w 0 (x3 + 1).toNatClampNeg)] rfl ?_
  exact h.2
set_option maxRecDepth 100000 in
theorem G_Lw_law_678 {d : Nat} {x3 : Int32} {s0 : Int32} {w : xWd} {Q : xMV → xWd → Prop} (h : (vp_in (x3 + 1) (w 4 0).toNatClampNeg ∧ xWp (d + 6) m_Md_back 0 [xA 7 2, xI (w 0 (x3 + 1).toNatClampNeg)] [] w (fun a w' => xWp (d + 7) m_Lw_law 687 [xA 51 0, xA 6 1, xA 7 2, xI x3] (x_pu a [xI s0]) w' Q))) : xWp (d + 7) m_Lw_law 678 [xA 51 0, xA 6 1, xA 7 2, xI x3] [xI s0] w Q := by
  refine x_goN 5 (pc' := 683) (ls' := [xA 51 0, xA 6 1, xA 7 2, xI x3]) (st' := [xI (x3 + 1), xA 51 0, xA 7 2, xI s0]) (w' := w) rfl ?_
  refine x_ob (P := 0 = 0 ∧ vp_in (x3 + 1) (w 4 0).toNatClampNeg) (pc' := 684) (ls' := [xA 51 0, xA 6 1, xA 7 2, xI x3]) (st' := [xI (w 0 (x3 + 1).toNatClampNeg), xA 7 2, xI s0]) (w' := w) rfl ⟨rfl, h.1⟩ ?_
  refine x_call (y := m_Md_back) (as := [xA 7 2, xI (w 0 (x3 + 1).toNatClampNeg)]) (rst := [xI s0]) rfl [xA 7 2, xI (w 0 (x3 + 1).toNatClampNeg)] rfl ?_
  exact h.2
set_option maxRecDepth 100000 in
theorem G_Lw_law_687 {d : Nat} {x3 : Int32} {s1 : Int32} {s0 : Int32} {w : xWd} {Q : xMV → xWd → Prop} (h : ((s0 = s1 → xWp (d + 7) m_Lw_law 1106 [xA 51 0, xA 6 1, xA 7 2, xI x3] [] w Q) ∧ (¬ (s0 = s1) → Q (xI 0) w))) : xWp (d + 7) m_Lw_law 687 [xA 51 0, xA 6 1, xA 7 2, xI x3] [xI s1, xI s0] w Q := by
  refine x_goN 1 (pc' := if s0 = s1 then 1106 else 690) (ls' := [xA 51 0, xA 6 1, xA 7 2, xI x3]) (st' := []) (w' := w) rfl ?_
  refine x_br (fun c1 => ?_) (fun c1 => ?_)
  · skip
    exact (h.1 c1)
  · skip
    refine x_goN 1 (pc' := 691) (ls' := [xA 51 0, xA 6 1, xA 7 2, xI x3]) (st' := [xI 0]) (w' := w) rfl ?_
    exact x_ret (P := (0 : Int32) = 0 ∨ (0 : Int32) = 1) rfl (by decide) (h.2 c1)
set_option maxRecDepth 100000 in
theorem G_Lw_law_692 {d : Nat} {x3 : Int32} {w : xWd} {Q : xMV → xWd → Prop} (h : (vp_in (x3 + 1) (w 4 0).toNatClampNeg ∧ xWp (d + 6) m_Vp_kinds 0 [xA 6 1, xI (w 0 (x3 + 1).toNatClampNeg), xU, xU] [] w (fun a w' => xWp (d + 7) m_Lw_law 701 [xA 51 0, xA 6 1, xA 7 2, xI x3] (x_pu a []) w' Q))) : xWp (d + 7) m_Lw_law 692 [xA 51 0, xA 6 1, xA 7 2, xI x3] [] w Q := by
  refine x_goN 5 (pc' := 697) (ls' := [xA 51 0, xA 6 1, xA 7 2, xI x3]) (st' := [xI (x3 + 1), xA 51 0, xA 6 1]) (w' := w) rfl ?_
  refine x_ob (P := 0 = 0 ∧ vp_in (x3 + 1) (w 4 0).toNatClampNeg) (pc' := 698) (ls' := [xA 51 0, xA 6 1, xA 7 2, xI x3]) (st' := [xI (w 0 (x3 + 1).toNatClampNeg), xA 6 1]) (w' := w) rfl ⟨rfl, h.1⟩ ?_
  refine x_call (y := m_Vp_kinds) (as := [xA 6 1, xI (w 0 (x3 + 1).toNatClampNeg)]) (rst := []) rfl [xA 6 1, xI (w 0 (x3 + 1).toNatClampNeg), xU, xU] rfl ?_
  exact h.2
set_option maxRecDepth 100000 in
theorem G_Lw_law_701 {d : Nat} {x3 : Int32} {s0 : Int32} {w : xWd} {Q : xMV → xWd → Prop} (h : (vp_in (x3 + 1) (w 4 0).toNatClampNeg ∧ xWp (d + 6) m_Md_kinds 0 [xA 7 2, xI (w 0 (x3 + 1).toNatClampNeg), xU, xU, xU] [] w (fun a w' => xWp (d + 7) m_Lw_law 710 [xA 51 0, xA 6 1, xA 7 2, xI x3] (x_pu a [xI s0]) w' Q))) : xWp (d + 7) m_Lw_law 701 [xA 51 0, xA 6 1, xA 7 2, xI x3] [xI s0] w Q := by
  refine x_goN 5 (pc' := 706) (ls' := [xA 51 0, xA 6 1, xA 7 2, xI x3]) (st' := [xI (x3 + 1), xA 51 0, xA 7 2, xI s0]) (w' := w) rfl ?_
  refine x_ob (P := 0 = 0 ∧ vp_in (x3 + 1) (w 4 0).toNatClampNeg) (pc' := 707) (ls' := [xA 51 0, xA 6 1, xA 7 2, xI x3]) (st' := [xI (w 0 (x3 + 1).toNatClampNeg), xA 7 2, xI s0]) (w' := w) rfl ⟨rfl, h.1⟩ ?_
  refine x_call (y := m_Md_kinds) (as := [xA 7 2, xI (w 0 (x3 + 1).toNatClampNeg)]) (rst := [xI s0]) rfl [xA 7 2, xI (w 0 (x3 + 1).toNatClampNeg), xU, xU, xU] rfl ?_
  exact h.2
set_option maxRecDepth 100000 in
theorem G_Lw_law_710 {d : Nat} {x3 : Int32} {s1 : Int32} {s0 : Int32} {w : xWd} {Q : xMV → xWd → Prop} (h : ((s0 = s1 → xWp (d + 7) m_Lw_law 1106 [xA 51 0, xA 6 1, xA 7 2, xI x3] [] w Q) ∧ (¬ (s0 = s1) → Q (xI 0) w))) : xWp (d + 7) m_Lw_law 710 [xA 51 0, xA 6 1, xA 7 2, xI x3] [xI s1, xI s0] w Q := by
  refine x_goN 1 (pc' := if s0 = s1 then 1106 else 713) (ls' := [xA 51 0, xA 6 1, xA 7 2, xI x3]) (st' := []) (w' := w) rfl ?_
  refine x_br (fun c1 => ?_) (fun c1 => ?_)
  · skip
    exact (h.1 c1)
  · skip
    refine x_goN 1 (pc' := 714) (ls' := [xA 51 0, xA 6 1, xA 7 2, xI x3]) (st' := [xI 0]) (w' := w) rfl ?_
    exact x_ret (P := (0 : Int32) = 0 ∨ (0 : Int32) = 1) rfl (by decide) (h.2 c1)
set_option maxRecDepth 100000 in
theorem G_Lw_law_715 {d : Nat} {x3 : Int32} {w : xWd} {Q : xMV → xWd → Prop} (h : (vp_in (x3 + 1) (w 4 0).toNatClampNeg ∧ xWp (d + 6) m_Vp_firsts 0 [xA 6 1, xI (w 0 (x3 + 1).toNatClampNeg), xU, xU] [] w (fun a w' => xWp (d + 7) m_Lw_law 724 [xA 51 0, xA 6 1, xA 7 2, xI x3] (x_pu a []) w' Q))) : xWp (d + 7) m_Lw_law 715 [xA 51 0, xA 6 1, xA 7 2, xI x3] [] w Q := by
  refine x_goN 5 (pc' := 720) (ls' := [xA 51 0, xA 6 1, xA 7 2, xI x3]) (st' := [xI (x3 + 1), xA 51 0, xA 6 1]) (w' := w) rfl ?_
  refine x_ob (P := 0 = 0 ∧ vp_in (x3 + 1) (w 4 0).toNatClampNeg) (pc' := 721) (ls' := [xA 51 0, xA 6 1, xA 7 2, xI x3]) (st' := [xI (w 0 (x3 + 1).toNatClampNeg), xA 6 1]) (w' := w) rfl ⟨rfl, h.1⟩ ?_
  refine x_call (y := m_Vp_firsts) (as := [xA 6 1, xI (w 0 (x3 + 1).toNatClampNeg)]) (rst := []) rfl [xA 6 1, xI (w 0 (x3 + 1).toNatClampNeg), xU, xU] rfl ?_
  exact h.2
set_option maxRecDepth 100000 in
theorem G_Lw_law_724 {d : Nat} {x3 : Int32} {s0 : Int32} {w : xWd} {Q : xMV → xWd → Prop} (h : (vp_in (x3 + 1) (w 4 0).toNatClampNeg ∧ xWp (d + 6) m_Md_firsts 0 [xA 7 2, xI (w 0 (x3 + 1).toNatClampNeg), xU, xU, xU] [] w (fun a w' => xWp (d + 7) m_Lw_law 733 [xA 51 0, xA 6 1, xA 7 2, xI x3] (x_pu a [xI s0]) w' Q))) : xWp (d + 7) m_Lw_law 724 [xA 51 0, xA 6 1, xA 7 2, xI x3] [xI s0] w Q := by
  refine x_goN 5 (pc' := 729) (ls' := [xA 51 0, xA 6 1, xA 7 2, xI x3]) (st' := [xI (x3 + 1), xA 51 0, xA 7 2, xI s0]) (w' := w) rfl ?_
  refine x_ob (P := 0 = 0 ∧ vp_in (x3 + 1) (w 4 0).toNatClampNeg) (pc' := 730) (ls' := [xA 51 0, xA 6 1, xA 7 2, xI x3]) (st' := [xI (w 0 (x3 + 1).toNatClampNeg), xA 7 2, xI s0]) (w' := w) rfl ⟨rfl, h.1⟩ ?_
  refine x_call (y := m_Md_firsts) (as := [xA 7 2, xI (w 0 (x3 + 1).toNatClampNeg)]) (rst := [xI s0]) rfl [xA 7 2, xI (w 0 (x3 + 1).toNatClampNeg), xU, xU, xU] rfl ?_
  exact h.2
set_option maxRecDepth 100000 in
theorem G_Lw_law_733 {d : Nat} {x3 : Int32} {s1 : Int32} {s0 : Int32} {w : xWd} {Q : xMV → xWd → Prop} (h : ((s0 = s1 → xWp (d + 7) m_Lw_law 1106 [xA 51 0, xA 6 1, xA 7 2, xI x3] [] w Q) ∧ (¬ (s0 = s1) → Q (xI 0) w))) : xWp (d + 7) m_Lw_law 733 [xA 51 0, xA 6 1, xA 7 2, xI x3] [xI s1, xI s0] w Q := by
  refine x_goN 1 (pc' := if s0 = s1 then 1106 else 736) (ls' := [xA 51 0, xA 6 1, xA 7 2, xI x3]) (st' := []) (w' := w) rfl ?_
  refine x_br (fun c1 => ?_) (fun c1 => ?_)
  · skip
    exact (h.1 c1)
  · skip
    refine x_goN 1 (pc' := 737) (ls' := [xA 51 0, xA 6 1, xA 7 2, xI x3]) (st' := [xI 0]) (w' := w) rfl ?_
    exact x_ret (P := (0 : Int32) = 0 ∨ (0 : Int32) = 1) rfl (by decide) (h.2 c1)
set_option maxRecDepth 100000 in
theorem G_Lw_law_738 {d : Nat} {x3 : Int32} {w : xWd} {Q : xMV → xWd → Prop} (h : (vp_in (x3 + 1) (w 4 0).toNatClampNeg ∧ xWp (d + 6) m_Vp_odds 0 [xA 6 1, xI (w 0 (x3 + 1).toNatClampNeg), xU, xU, xU] [] w (fun a w' => xWp (d + 7) m_Lw_law 747 [xA 51 0, xA 6 1, xA 7 2, xI x3] (x_pu a []) w' Q))) : xWp (d + 7) m_Lw_law 738 [xA 51 0, xA 6 1, xA 7 2, xI x3] [] w Q := by
  refine x_goN 5 (pc' := 743) (ls' := [xA 51 0, xA 6 1, xA 7 2, xI x3]) (st' := [xI (x3 + 1), xA 51 0, xA 6 1]) (w' := w) rfl ?_
  refine x_ob (P := 0 = 0 ∧ vp_in (x3 + 1) (w 4 0).toNatClampNeg) (pc' := 744) (ls' := [xA 51 0, xA 6 1, xA 7 2, xI x3]) (st' := [xI (w 0 (x3 + 1).toNatClampNeg), xA 6 1]) (w' := w) rfl ⟨rfl, h.1⟩ ?_
  refine x_call (y := m_Vp_odds) (as := [xA 6 1, xI (w 0 (x3 + 1).toNatClampNeg)]) (rst := []) rfl [xA 6 1, xI (w 0 (x3 + 1).toNatClampNeg), xU, xU, xU] rfl ?_
  exact h.2
set_option maxRecDepth 100000 in
theorem G_Lw_law_747 {d : Nat} {x3 : Int32} {t0 : Int64} {w : xWd} {Q : xMV → xWd → Prop} (h : (vp_in (x3 + 1) (w 4 0).toNatClampNeg ∧ xWp (d + 6) m_Md_odds 0 [xA 7 2, xI (w 0 (x3 + 1).toNatClampNeg)] [] w (fun a w' => xWp (d + 7) m_Lw_law 756 [xA 51 0, xA 6 1, xA 7 2, xI x3] (x_pu a [xJ t0]) w' Q))) : xWp (d + 7) m_Lw_law 747 [xA 51 0, xA 6 1, xA 7 2, xI x3] [xJ t0] w Q := by
  refine x_goN 5 (pc' := 752) (ls' := [xA 51 0, xA 6 1, xA 7 2, xI x3]) (st' := [xI (x3 + 1), xA 51 0, xA 7 2, xJ t0]) (w' := w) rfl ?_
  refine x_ob (P := 0 = 0 ∧ vp_in (x3 + 1) (w 4 0).toNatClampNeg) (pc' := 753) (ls' := [xA 51 0, xA 6 1, xA 7 2, xI x3]) (st' := [xI (w 0 (x3 + 1).toNatClampNeg), xA 7 2, xJ t0]) (w' := w) rfl ⟨rfl, h.1⟩ ?_
  refine x_call (y := m_Md_odds) (as := [xA 7 2, xI (w 0 (x3 + 1).toNatClampNeg)]) (rst := [xJ t0]) rfl [xA 7 2, xI (w 0 (x3 + 1).toNatClampNeg)] rfl ?_
  exact h.2
set_option maxRecDepth 100000 in
theorem G_Lw_law_756 {d : Nat} {x3 : Int32} {t1 : Int64} {t0 : Int64} {w : xWd} {Q : xMV → xWd → Prop} (h : ((lg_cmp t0 t1 = 0 → xWp (d + 7) m_Lw_law 1106 [xA 51 0, xA 6 1, xA 7 2, xI x3] [] w Q) ∧ (¬ (lg_cmp t0 t1 = 0) → Q (xI 0) w))) : xWp (d + 7) m_Lw_law 756 [xA 51 0, xA 6 1, xA 7 2, xI x3] [xJ t1, xJ t0] w Q := by
  refine x_goN 2 (pc' := if lg_cmp t0 t1 = 0 then 1106 else 760) (ls' := [xA 51 0, xA 6 1, xA 7 2, xI x3]) (st' := []) (w' := w) rfl ?_
  refine x_br (fun c1 => ?_) (fun c1 => ?_)
  · skip
    exact (h.1 c1)
  · skip
    refine x_goN 1 (pc' := 761) (ls' := [xA 51 0, xA 6 1, xA 7 2, xI x3]) (st' := [xI 0]) (w' := w) rfl ?_
    exact x_ret (P := (0 : Int32) = 0 ∨ (0 : Int32) = 1) rfl (by decide) (h.2 c1)
set_option maxRecDepth 100000 in
theorem G_Lw_law_762 {d : Nat} {x3 : Int32} {w : xWd} {Q : xMV → xWd → Prop} (h : (vp_in (x3 + 1) (w 4 0).toNatClampNeg ∧ (vp_in (x3 + 2) (w 4 0).toNatClampNeg ∧ (vp_in (x3 + 3) (w 4 0).toNatClampNeg ∧ xWp (d + 6) m_Vp_sheet 0 [xA 6 1, xI (w 0 (x3 + 1).toNatClampNeg), xI (w 0 (x3 + 2).toNatClampNeg), xI (w 0 (x3 + 3).toNatClampNeg)] [] w (fun a w' => xWp (d + 7) m_Lw_law 781 [xA 51 0, xA 6 1, xA 7 2, xI x3] (x_pu a []) w' Q))))) : xWp (d + 7) m_Lw_law 762 [xA 51 0, xA 6 1, xA 7 2, xI x3] [] w Q := by
  refine x_goN 5 (pc' := 767) (ls' := [xA 51 0, xA 6 1, xA 7 2, xI x3]) (st' := [xI (x3 + 1), xA 51 0, xA 6 1]) (w' := w) rfl ?_
  refine x_ob (P := 0 = 0 ∧ vp_in (x3 + 1) (w 4 0).toNatClampNeg) (pc' := 768) (ls' := [xA 51 0, xA 6 1, xA 7 2, xI x3]) (st' := [xI (w 0 (x3 + 1).toNatClampNeg), xA 6 1]) (w' := w) rfl ⟨rfl, h.1⟩ ?_
  refine x_goN 4 (pc' := 772) (ls' := [xA 51 0, xA 6 1, xA 7 2, xI x3]) (st' := [xI (x3 + 2), xA 51 0, xI (w 0 (x3 + 1).toNatClampNeg), xA 6 1]) (w' := w) rfl ?_
  refine x_ob (P := 0 = 0 ∧ vp_in (x3 + 2) (w 4 0).toNatClampNeg) (pc' := 773) (ls' := [xA 51 0, xA 6 1, xA 7 2, xI x3]) (st' := [xI (w 0 (x3 + 2).toNatClampNeg), xI (w 0 (x3 + 1).toNatClampNeg), xA 6 1]) (w' := w) rfl ⟨rfl, h.2.1⟩ ?_
  refine x_goN 4 (pc' := 777) (ls' := [xA 51 0, xA 6 1, xA 7 2, xI x3]) (st' := [xI (x3 + 3), xA 51 0, xI (w 0 (x3 + 2).toNatClampNeg), xI (w 0 (x3 + 1).toNatClampNeg), xA 6 1]) (w' := w) rfl ?_
  refine x_ob (P := 0 = 0 ∧ vp_in (x3 + 3) (w 4 0).toNatClampNeg) (pc' := 778) (ls' := [xA 51 0, xA 6 1, xA 7 2, xI x3]) (st' := [xI (w 0 (x3 + 3).toNatClampNeg), xI (w 0 (x3 + 2).toNatClampNeg), xI (w 0 (x3 + 1).toNatClampNeg), xA 6 1]) (w' := w) rfl ⟨rfl, h.2.2.1⟩ ?_
  refine x_call (y := m_Vp_sheet) (as := [xA 6 1, xI (w 0 (x3 + 1).toNatClampNeg), xI (w 0 (x3 + 2).toNatClampNeg), xI (w 0 (x3 + 3).toNatClampNeg)]) (rst := []) rfl [xA 6 1, xI (w 0 (x3 + 1).toNatClampNeg), xI (w 0 (x3 + 2).toNatClampNeg), xI (w 0 (x3 + 3).toNatClampNeg)] rfl ?_
  exact h.2.2.2
set_option maxRecDepth 100000 in
theorem G_Lw_law_781 {d : Nat} {x3 : Int32} {s0 : Int32} {w : xWd} {Q : xMV → xWd → Prop} (h : (vp_in (x3 + 1) (w 4 0).toNatClampNeg ∧ (vp_in (x3 + 2) (w 4 0).toNatClampNeg ∧ (vp_in (x3 + 3) (w 4 0).toNatClampNeg ∧ xWp (d + 6) m_Md_sheet 0 [xA 7 2, xI (w 0 (x3 + 1).toNatClampNeg), xI (w 0 (x3 + 2).toNatClampNeg), xI (w 0 (x3 + 3).toNatClampNeg), xU] [] w (fun a w' => xWp (d + 7) m_Lw_law 800 [xA 51 0, xA 6 1, xA 7 2, xI x3] (x_pu a [xI s0]) w' Q))))) : xWp (d + 7) m_Lw_law 781 [xA 51 0, xA 6 1, xA 7 2, xI x3] [xI s0] w Q := by
  refine x_goN 5 (pc' := 786) (ls' := [xA 51 0, xA 6 1, xA 7 2, xI x3]) (st' := [xI (x3 + 1), xA 51 0, xA 7 2, xI s0]) (w' := w) rfl ?_
  refine x_ob (P := 0 = 0 ∧ vp_in (x3 + 1) (w 4 0).toNatClampNeg) (pc' := 787) (ls' := [xA 51 0, xA 6 1, xA 7 2, xI x3]) (st' := [xI (w 0 (x3 + 1).toNatClampNeg), xA 7 2, xI s0]) (w' := w) rfl ⟨rfl, h.1⟩ ?_
  refine x_goN 4 (pc' := 791) (ls' := [xA 51 0, xA 6 1, xA 7 2, xI x3]) (st' := [xI (x3 + 2), xA 51 0, xI (w 0 (x3 + 1).toNatClampNeg), xA 7 2, xI s0]) (w' := w) rfl ?_
  refine x_ob (P := 0 = 0 ∧ vp_in (x3 + 2) (w 4 0).toNatClampNeg) (pc' := 792) (ls' := [xA 51 0, xA 6 1, xA 7 2, xI x3]) (st' := [xI (w 0 (x3 + 2).toNatClampNeg), xI (w 0 (x3 + 1).toNatClampNeg), xA 7 2, xI s0]) (w' := w) rfl ⟨rfl, h.2.1⟩ ?_
  refine x_goN 4 (pc' := 796) (ls' := [xA 51 0, xA 6 1, xA 7 2, xI x3]) (st' := [xI (x3 + 3), xA 51 0, xI (w 0 (x3 + 2).toNatClampNeg), xI (w 0 (x3 + 1).toNatClampNeg), xA 7 2, xI s0]) (w' := w) rfl ?_
  refine x_ob (P := 0 = 0 ∧ vp_in (x3 + 3) (w 4 0).toNatClampNeg) (pc' := 797) (ls' := [xA 51 0, xA 6 1, xA 7 2, xI x3]) (st' := [xI (w 0 (x3 + 3).toNatClampNeg), xI (w 0 (x3 + 2).toNatClampNeg), xI (w 0 (x3 + 1).toNatClampNeg), xA 7 2, xI s0]) (w' := w) rfl ⟨rfl, h.2.2.1⟩ ?_
  refine x_call (y := m_Md_sheet) (as := [xA 7 2, xI (w 0 (x3 + 1).toNatClampNeg), xI (w 0 (x3 + 2).toNatClampNeg), xI (w 0 (x3 + 3).toNatClampNeg)]) (rst := [xI s0]) rfl [xA 7 2, xI (w 0 (x3 + 1).toNatClampNeg), xI (w 0 (x3 + 2).toNatClampNeg), xI (w 0 (x3 + 3).toNatClampNeg), xU] rfl ?_
  exact h.2.2.2
set_option maxRecDepth 100000 in
theorem G_Lw_law_800 {d : Nat} {x3 : Int32} {s1 : Int32} {s0 : Int32} {w : xWd} {Q : xMV → xWd → Prop} (h : ((s0 = s1 → xWp (d + 7) m_Lw_law 1106 [xA 51 0, xA 6 1, xA 7 2, xI x3] [] w Q) ∧ (¬ (s0 = s1) → Q (xI 0) w))) : xWp (d + 7) m_Lw_law 800 [xA 51 0, xA 6 1, xA 7 2, xI x3] [xI s1, xI s0] w Q := by
  refine x_goN 1 (pc' := if s0 = s1 then 1106 else 803) (ls' := [xA 51 0, xA 6 1, xA 7 2, xI x3]) (st' := []) (w' := w) rfl ?_
  refine x_br (fun c1 => ?_) (fun c1 => ?_)
  · skip
    exact (h.1 c1)
  · skip
    refine x_goN 1 (pc' := 804) (ls' := [xA 51 0, xA 6 1, xA 7 2, xI x3]) (st' := [xI 0]) (w' := w) rfl ?_
    exact x_ret (P := (0 : Int32) = 0 ∨ (0 : Int32) = 1) rfl (by decide) (h.2 c1)
set_option maxRecDepth 100000 in
theorem G_Lw_law_805 {d : Nat} {x3 : Int32} {w : xWd} {Q : xMV → xWd → Prop} (h : (vp_in (x3 + 1) (w 4 0).toNatClampNeg ∧ xWp (d + 6) m_Vp_lose 0 [xA 6 1, xI (w 0 (x3 + 1).toNatClampNeg), xU] [] w (fun a w' => xWp (d + 7) m_Lw_law 814 [xA 51 0, xA 6 1, xA 7 2, xI x3] (x_pu a []) w' Q))) : xWp (d + 7) m_Lw_law 805 [xA 51 0, xA 6 1, xA 7 2, xI x3] [] w Q := by
  refine x_goN 5 (pc' := 810) (ls' := [xA 51 0, xA 6 1, xA 7 2, xI x3]) (st' := [xI (x3 + 1), xA 51 0, xA 6 1]) (w' := w) rfl ?_
  refine x_ob (P := 0 = 0 ∧ vp_in (x3 + 1) (w 4 0).toNatClampNeg) (pc' := 811) (ls' := [xA 51 0, xA 6 1, xA 7 2, xI x3]) (st' := [xI (w 0 (x3 + 1).toNatClampNeg), xA 6 1]) (w' := w) rfl ⟨rfl, h.1⟩ ?_
  refine x_call (y := m_Vp_lose) (as := [xA 6 1, xI (w 0 (x3 + 1).toNatClampNeg)]) (rst := []) rfl [xA 6 1, xI (w 0 (x3 + 1).toNatClampNeg), xU] rfl ?_
  exact h.2
set_option maxRecDepth 100000 in
theorem G_Lw_law_814 {d : Nat} {x3 : Int32} {s0 : Int32} {w : xWd} {Q : xMV → xWd → Prop} (h : (vp_in (x3 + 1) (w 4 0).toNatClampNeg ∧ xWp (d + 6) m_Md_lose 0 [xA 7 2, xI (w 0 (x3 + 1).toNatClampNeg), xU] [] w (fun a w' => xWp (d + 7) m_Lw_law 823 [xA 51 0, xA 6 1, xA 7 2, xI x3] (x_pu a [xI s0]) w' Q))) : xWp (d + 7) m_Lw_law 814 [xA 51 0, xA 6 1, xA 7 2, xI x3] [xI s0] w Q := by
  refine x_goN 5 (pc' := 819) (ls' := [xA 51 0, xA 6 1, xA 7 2, xI x3]) (st' := [xI (x3 + 1), xA 51 0, xA 7 2, xI s0]) (w' := w) rfl ?_
  refine x_ob (P := 0 = 0 ∧ vp_in (x3 + 1) (w 4 0).toNatClampNeg) (pc' := 820) (ls' := [xA 51 0, xA 6 1, xA 7 2, xI x3]) (st' := [xI (w 0 (x3 + 1).toNatClampNeg), xA 7 2, xI s0]) (w' := w) rfl ⟨rfl, h.1⟩ ?_
  refine x_call (y := m_Md_lose) (as := [xA 7 2, xI (w 0 (x3 + 1).toNatClampNeg)]) (rst := [xI s0]) rfl [xA 7 2, xI (w 0 (x3 + 1).toNatClampNeg), xU] rfl ?_
  exact h.2
set_option maxRecDepth 100000 in
theorem G_Lw_law_823 {d : Nat} {x3 : Int32} {s1 : Int32} {s0 : Int32} {w : xWd} {Q : xMV → xWd → Prop} (h : ((s0 = s1 → xWp (d + 7) m_Lw_law 1106 [xA 51 0, xA 6 1, xA 7 2, xI x3] [] w Q) ∧ (¬ (s0 = s1) → Q (xI 0) w))) : xWp (d + 7) m_Lw_law 823 [xA 51 0, xA 6 1, xA 7 2, xI x3] [xI s1, xI s0] w Q := by
  refine x_goN 1 (pc' := if s0 = s1 then 1106 else 826) (ls' := [xA 51 0, xA 6 1, xA 7 2, xI x3]) (st' := []) (w' := w) rfl ?_
  refine x_br (fun c1 => ?_) (fun c1 => ?_)
  · skip
    exact (h.1 c1)
  · skip
    refine x_goN 1 (pc' := 827) (ls' := [xA 51 0, xA 6 1, xA 7 2, xI x3]) (st' := [xI 0]) (w' := w) rfl ?_
    exact x_ret (P := (0 : Int32) = 0 ∨ (0 : Int32) = 1) rfl (by decide) (h.2 c1)
set_option maxRecDepth 100000 in
theorem G_Lw_law_828 {d : Nat} {x3 : Int32} {w : xWd} {Q : xMV → xWd → Prop} (h : (vp_in (x3 + 1) (w 4 0).toNatClampNeg ∧ (vp_in (x3 + 2) (w 4 0).toNatClampNeg ∧ (vp_in (x3 + 3) (w 4 0).toNatClampNeg ∧ xWp (d + 6) m_Vp_put 0 [xA 6 1, xI (w 0 (x3 + 1).toNatClampNeg), xI (w 0 (x3 + 2).toNatClampNeg), xI (w 0 (x3 + 3).toNatClampNeg), xU] [] w (fun a w' => xWp (d + 7) m_Lw_law 847 [xA 51 0, xA 6 1, xA 7 2, xI x3] (x_pu a []) w' Q))))) : xWp (d + 7) m_Lw_law 828 [xA 51 0, xA 6 1, xA 7 2, xI x3] [] w Q := by
  refine x_goN 5 (pc' := 833) (ls' := [xA 51 0, xA 6 1, xA 7 2, xI x3]) (st' := [xI (x3 + 1), xA 51 0, xA 6 1]) (w' := w) rfl ?_
  refine x_ob (P := 0 = 0 ∧ vp_in (x3 + 1) (w 4 0).toNatClampNeg) (pc' := 834) (ls' := [xA 51 0, xA 6 1, xA 7 2, xI x3]) (st' := [xI (w 0 (x3 + 1).toNatClampNeg), xA 6 1]) (w' := w) rfl ⟨rfl, h.1⟩ ?_
  refine x_goN 4 (pc' := 838) (ls' := [xA 51 0, xA 6 1, xA 7 2, xI x3]) (st' := [xI (x3 + 2), xA 51 0, xI (w 0 (x3 + 1).toNatClampNeg), xA 6 1]) (w' := w) rfl ?_
  refine x_ob (P := 0 = 0 ∧ vp_in (x3 + 2) (w 4 0).toNatClampNeg) (pc' := 839) (ls' := [xA 51 0, xA 6 1, xA 7 2, xI x3]) (st' := [xI (w 0 (x3 + 2).toNatClampNeg), xI (w 0 (x3 + 1).toNatClampNeg), xA 6 1]) (w' := w) rfl ⟨rfl, h.2.1⟩ ?_
  refine x_goN 4 (pc' := 843) (ls' := [xA 51 0, xA 6 1, xA 7 2, xI x3]) (st' := [xI (x3 + 3), xA 51 0, xI (w 0 (x3 + 2).toNatClampNeg), xI (w 0 (x3 + 1).toNatClampNeg), xA 6 1]) (w' := w) rfl ?_
  refine x_ob (P := 0 = 0 ∧ vp_in (x3 + 3) (w 4 0).toNatClampNeg) (pc' := 844) (ls' := [xA 51 0, xA 6 1, xA 7 2, xI x3]) (st' := [xI (w 0 (x3 + 3).toNatClampNeg), xI (w 0 (x3 + 2).toNatClampNeg), xI (w 0 (x3 + 1).toNatClampNeg), xA 6 1]) (w' := w) rfl ⟨rfl, h.2.2.1⟩ ?_
  refine x_call (y := m_Vp_put) (as := [xA 6 1, xI (w 0 (x3 + 1).toNatClampNeg), xI (w 0 (x3 + 2).toNatClampNeg), xI (w 0 (x3 + 3).toNatClampNeg)]) (rst := []) rfl [xA 6 1, xI (w 0 (x3 + 1).toNatClampNeg), xI (w 0 (x3 + 2).toNatClampNeg), xI (w 0 (x3 + 3).toNatClampNeg), xU] rfl ?_
  exact h.2.2.2
set_option maxRecDepth 100000 in
theorem G_Lw_law_847 {d : Nat} {x3 : Int32} {s0 : Int32} {w : xWd} {Q : xMV → xWd → Prop} (h : (vp_in (x3 + 1) (w 4 0).toNatClampNeg ∧ (vp_in (x3 + 2) (w 4 0).toNatClampNeg ∧ (vp_in (x3 + 3) (w 4 0).toNatClampNeg ∧ xWp (d + 6) m_Md_put 0 [xA 7 2, xI (w 0 (x3 + 1).toNatClampNeg), xI (w 0 (x3 + 2).toNatClampNeg), xI (w 0 (x3 + 3).toNatClampNeg)] [] w (fun a w' => xWp (d + 7) m_Lw_law 866 [xA 51 0, xA 6 1, xA 7 2, xI x3] (x_pu a [xI s0]) w' Q))))) : xWp (d + 7) m_Lw_law 847 [xA 51 0, xA 6 1, xA 7 2, xI x3] [xI s0] w Q := by
  refine x_goN 5 (pc' := 852) (ls' := [xA 51 0, xA 6 1, xA 7 2, xI x3]) (st' := [xI (x3 + 1), xA 51 0, xA 7 2, xI s0]) (w' := w) rfl ?_
  refine x_ob (P := 0 = 0 ∧ vp_in (x3 + 1) (w 4 0).toNatClampNeg) (pc' := 853) (ls' := [xA 51 0, xA 6 1, xA 7 2, xI x3]) (st' := [xI (w 0 (x3 + 1).toNatClampNeg), xA 7 2, xI s0]) (w' := w) rfl ⟨rfl, h.1⟩ ?_
  refine x_goN 4 (pc' := 857) (ls' := [xA 51 0, xA 6 1, xA 7 2, xI x3]) (st' := [xI (x3 + 2), xA 51 0, xI (w 0 (x3 + 1).toNatClampNeg), xA 7 2, xI s0]) (w' := w) rfl ?_
  refine x_ob (P := 0 = 0 ∧ vp_in (x3 + 2) (w 4 0).toNatClampNeg) (pc' := 858) (ls' := [xA 51 0, xA 6 1, xA 7 2, xI x3]) (st' := [xI (w 0 (x3 + 2).toNatClampNeg), xI (w 0 (x3 + 1).toNatClampNeg), xA 7 2, xI s0]) (w' := w) rfl ⟨rfl, h.2.1⟩ ?_
  refine x_goN 4 (pc' := 862) (ls' := [xA 51 0, xA 6 1, xA 7 2, xI x3]) (st' := [xI (x3 + 3), xA 51 0, xI (w 0 (x3 + 2).toNatClampNeg), xI (w 0 (x3 + 1).toNatClampNeg), xA 7 2, xI s0]) (w' := w) rfl ?_
  refine x_ob (P := 0 = 0 ∧ vp_in (x3 + 3) (w 4 0).toNatClampNeg) (pc' := 863) (ls' := [xA 51 0, xA 6 1, xA 7 2, xI x3]) (st' := [xI (w 0 (x3 + 3).toNatClampNeg), xI (w 0 (x3 + 2).toNatClampNeg), xI (w 0 (x3 + 1).toNatClampNeg), xA 7 2, xI s0]) (w' := w) rfl ⟨rfl, h.2.2.1⟩ ?_
  refine x_call (y := m_Md_put) (as := [xA 7 2, xI (w 0 (x3 + 1).toNatClampNeg), xI (w 0 (x3 + 2).toNatClampNeg), xI (w 0 (x3 + 3).toNatClampNeg)]) (rst := [xI s0]) rfl [xA 7 2, xI (w 0 (x3 + 1).toNatClampNeg), xI (w 0 (x3 + 2).toNatClampNeg), xI (w 0 (x3 + 3).toNatClampNeg)] rfl ?_
  exact h.2.2.2
set_option maxRecDepth 100000 in
theorem G_Lw_law_866 {d : Nat} {x3 : Int32} {s1 : Int32} {s0 : Int32} {w : xWd} {Q : xMV → xWd → Prop} (h : ((s0 = s1 → xWp (d + 7) m_Lw_law 1106 [xA 51 0, xA 6 1, xA 7 2, xI x3] [] w Q) ∧ (¬ (s0 = s1) → Q (xI 0) w))) : xWp (d + 7) m_Lw_law 866 [xA 51 0, xA 6 1, xA 7 2, xI x3] [xI s1, xI s0] w Q := by
  refine x_goN 1 (pc' := if s0 = s1 then 1106 else 869) (ls' := [xA 51 0, xA 6 1, xA 7 2, xI x3]) (st' := []) (w' := w) rfl ?_
  refine x_br (fun c1 => ?_) (fun c1 => ?_)
  · skip
    exact (h.1 c1)
  · skip
    refine x_goN 1 (pc' := 870) (ls' := [xA 51 0, xA 6 1, xA 7 2, xI x3]) (st' := [xI 0]) (w' := w) rfl ?_
    exact x_ret (P := (0 : Int32) = 0 ∨ (0 : Int32) = 1) rfl (by decide) (h.2 c1)
set_option maxRecDepth 100000 in
theorem G_Lw_law_871 {d : Nat} {x3 : Int32} {w : xWd} {Q : xMV → xWd → Prop} (h : (vp_in (x3 + 1) (w 4 0).toNatClampNeg ∧ (vp_in (x3 + 2) (w 4 0).toNatClampNeg ∧ (vp_in (x3 + 3) (w 4 0).toNatClampNeg ∧ xWp (d + 6) m_Vp_cell 0 [xA 6 1, xI (w 0 (x3 + 1).toNatClampNeg), xI (w 0 (x3 + 2).toNatClampNeg), xI (w 0 (x3 + 3).toNatClampNeg)] [] w (fun a w' => xWp (d + 7) m_Lw_law 890 [xA 51 0, xA 6 1, xA 7 2, xI x3] (x_pu a []) w' Q))))) : xWp (d + 7) m_Lw_law 871 [xA 51 0, xA 6 1, xA 7 2, xI x3] [] w Q := by
  refine x_goN 5 (pc' := 876) (ls' := [xA 51 0, xA 6 1, xA 7 2, xI x3]) (st' := [xI (x3 + 1), xA 51 0, xA 6 1]) (w' := w) rfl ?_
  refine x_ob (P := 0 = 0 ∧ vp_in (x3 + 1) (w 4 0).toNatClampNeg) (pc' := 877) (ls' := [xA 51 0, xA 6 1, xA 7 2, xI x3]) (st' := [xI (w 0 (x3 + 1).toNatClampNeg), xA 6 1]) (w' := w) rfl ⟨rfl, h.1⟩ ?_
  refine x_goN 4 (pc' := 881) (ls' := [xA 51 0, xA 6 1, xA 7 2, xI x3]) (st' := [xI (x3 + 2), xA 51 0, xI (w 0 (x3 + 1).toNatClampNeg), xA 6 1]) (w' := w) rfl ?_
  refine x_ob (P := 0 = 0 ∧ vp_in (x3 + 2) (w 4 0).toNatClampNeg) (pc' := 882) (ls' := [xA 51 0, xA 6 1, xA 7 2, xI x3]) (st' := [xI (w 0 (x3 + 2).toNatClampNeg), xI (w 0 (x3 + 1).toNatClampNeg), xA 6 1]) (w' := w) rfl ⟨rfl, h.2.1⟩ ?_
  refine x_goN 4 (pc' := 886) (ls' := [xA 51 0, xA 6 1, xA 7 2, xI x3]) (st' := [xI (x3 + 3), xA 51 0, xI (w 0 (x3 + 2).toNatClampNeg), xI (w 0 (x3 + 1).toNatClampNeg), xA 6 1]) (w' := w) rfl ?_
  refine x_ob (P := 0 = 0 ∧ vp_in (x3 + 3) (w 4 0).toNatClampNeg) (pc' := 887) (ls' := [xA 51 0, xA 6 1, xA 7 2, xI x3]) (st' := [xI (w 0 (x3 + 3).toNatClampNeg), xI (w 0 (x3 + 2).toNatClampNeg), xI (w 0 (x3 + 1).toNatClampNeg), xA 6 1]) (w' := w) rfl ⟨rfl, h.2.2.1⟩ ?_
  refine x_call (y := m_Vp_cell) (as := [xA 6 1, xI (w 0 (x3 + 1).toNatClampNeg), xI (w 0 (x3 + 2).toNatClampNeg), xI (w 0 (x3 + 3).toNatClampNeg)]) (rst := []) rfl [xA 6 1, xI (w 0 (x3 + 1).toNatClampNeg), xI (w 0 (x3 + 2).toNatClampNeg), xI (w 0 (x3 + 3).toNatClampNeg)] rfl ?_
  exact h.2.2.2
set_option maxRecDepth 100000 in
theorem G_Lw_law_890 {d : Nat} {x3 : Int32} {t0 : Int64} {w : xWd} {Q : xMV → xWd → Prop} (h : (vp_in (x3 + 1) (w 4 0).toNatClampNeg ∧ (vp_in (x3 + 2) (w 4 0).toNatClampNeg ∧ (vp_in (x3 + 3) (w 4 0).toNatClampNeg ∧ xWp (d + 6) m_Md_cell 0 [xA 7 2, xI (w 0 (x3 + 1).toNatClampNeg), xI (w 0 (x3 + 2).toNatClampNeg), xI (w 0 (x3 + 3).toNatClampNeg)] [] w (fun a w' => xWp (d + 7) m_Lw_law 909 [xA 51 0, xA 6 1, xA 7 2, xI x3] (x_pu a [xJ t0]) w' Q))))) : xWp (d + 7) m_Lw_law 890 [xA 51 0, xA 6 1, xA 7 2, xI x3] [xJ t0] w Q := by
  refine x_goN 5 (pc' := 895) (ls' := [xA 51 0, xA 6 1, xA 7 2, xI x3]) (st' := [xI (x3 + 1), xA 51 0, xA 7 2, xJ t0]) (w' := w) rfl ?_
  refine x_ob (P := 0 = 0 ∧ vp_in (x3 + 1) (w 4 0).toNatClampNeg) (pc' := 896) (ls' := [xA 51 0, xA 6 1, xA 7 2, xI x3]) (st' := [xI (w 0 (x3 + 1).toNatClampNeg), xA 7 2, xJ t0]) (w' := w) rfl ⟨rfl, h.1⟩ ?_
  refine x_goN 4 (pc' := 900) (ls' := [xA 51 0, xA 6 1, xA 7 2, xI x3]) (st' := [xI (x3 + 2), xA 51 0, xI (w 0 (x3 + 1).toNatClampNeg), xA 7 2, xJ t0]) (w' := w) rfl ?_
  refine x_ob (P := 0 = 0 ∧ vp_in (x3 + 2) (w 4 0).toNatClampNeg) (pc' := 901) (ls' := [xA 51 0, xA 6 1, xA 7 2, xI x3]) (st' := [xI (w 0 (x3 + 2).toNatClampNeg), xI (w 0 (x3 + 1).toNatClampNeg), xA 7 2, xJ t0]) (w' := w) rfl ⟨rfl, h.2.1⟩ ?_
  refine x_goN 4 (pc' := 905) (ls' := [xA 51 0, xA 6 1, xA 7 2, xI x3]) (st' := [xI (x3 + 3), xA 51 0, xI (w 0 (x3 + 2).toNatClampNeg), xI (w 0 (x3 + 1).toNatClampNeg), xA 7 2, xJ t0]) (w' := w) rfl ?_
  refine x_ob (P := 0 = 0 ∧ vp_in (x3 + 3) (w 4 0).toNatClampNeg) (pc' := 906) (ls' := [xA 51 0, xA 6 1, xA 7 2, xI x3]) (st' := [xI (w 0 (x3 + 3).toNatClampNeg), xI (w 0 (x3 + 2).toNatClampNeg), xI (w 0 (x3 + 1).toNatClampNeg), xA 7 2, xJ t0]) (w' := w) rfl ⟨rfl, h.2.2.1⟩ ?_
  refine x_call (y := m_Md_cell) (as := [xA 7 2, xI (w 0 (x3 + 1).toNatClampNeg), xI (w 0 (x3 + 2).toNatClampNeg), xI (w 0 (x3 + 3).toNatClampNeg)]) (rst := [xJ t0]) rfl [xA 7 2, xI (w 0 (x3 + 1).toNatClampNeg), xI (w 0 (x3 + 2).toNatClampNeg), xI (w 0 (x3 + 3).toNatClampNeg)] rfl ?_
  exact h.2.2.2
set_option maxRecDepth 100000 in
theorem G_Lw_law_909 {d : Nat} {x3 : Int32} {t1 : Int64} {t0 : Int64} {w : xWd} {Q : xMV → xWd → Prop} (h : ((lg_cmp t0 t1 = 0 → xWp (d + 7) m_Lw_law 1106 [xA 51 0, xA 6 1, xA 7 2, xI x3] [] w Q) ∧ (¬ (lg_cmp t0 t1 = 0) → Q (xI 0) w))) : xWp (d + 7) m_Lw_law 909 [xA 51 0, xA 6 1, xA 7 2, xI x3] [xJ t1, xJ t0] w Q := by
  refine x_goN 2 (pc' := if lg_cmp t0 t1 = 0 then 1106 else 913) (ls' := [xA 51 0, xA 6 1, xA 7 2, xI x3]) (st' := []) (w' := w) rfl ?_
  refine x_br (fun c1 => ?_) (fun c1 => ?_)
  · skip
    exact (h.1 c1)
  · skip
    refine x_goN 1 (pc' := 914) (ls' := [xA 51 0, xA 6 1, xA 7 2, xI x3]) (st' := [xI 0]) (w' := w) rfl ?_
    exact x_ret (P := (0 : Int32) = 0 ∨ (0 : Int32) = 1) rfl (by decide) (h.2 c1)
set_option maxRecDepth 100000 in
theorem G_Lw_law_915 {d : Nat} {x3 : Int32} {w : xWd} {Q : xMV → xWd → Prop} (h : (vp_in (x3 + 1) (w 4 0).toNatClampNeg ∧ (vp_in (x3 + 2) (w 4 0).toNatClampNeg ∧ (vp_in (x3 + 3) (w 4 0).toNatClampNeg ∧ (vp_in (x3 + 4) (w 4 0).toNatClampNeg ∧ (vp_in (x3 + 5) (w 4 0).toNatClampNeg ∧ xWp (d + 6) m_Vp_copy 0 [xA 6 1, xI (w 0 (x3 + 1).toNatClampNeg), xI (w 0 (x3 + 2).toNatClampNeg), xI (w 0 (x3 + 3).toNatClampNeg), xI (w 0 (x3 + 4).toNatClampNeg), xI (w 0 (x3 + 5).toNatClampNeg), xU, xU] [] w (fun a w' => xWp (d + 7) m_Lw_law 944 [xA 51 0, xA 6 1, xA 7 2, xI x3] (x_pu a []) w' Q))))))) : xWp (d + 7) m_Lw_law 915 [xA 51 0, xA 6 1, xA 7 2, xI x3] [] w Q := by
  refine x_goN 5 (pc' := 920) (ls' := [xA 51 0, xA 6 1, xA 7 2, xI x3]) (st' := [xI (x3 + 1), xA 51 0, xA 6 1]) (w' := w) rfl ?_
  refine x_ob (P := 0 = 0 ∧ vp_in (x3 + 1) (w 4 0).toNatClampNeg) (pc' := 921) (ls' := [xA 51 0, xA 6 1, xA 7 2, xI x3]) (st' := [xI (w 0 (x3 + 1).toNatClampNeg), xA 6 1]) (w' := w) rfl ⟨rfl, h.1⟩ ?_
  refine x_goN 4 (pc' := 925) (ls' := [xA 51 0, xA 6 1, xA 7 2, xI x3]) (st' := [xI (x3 + 2), xA 51 0, xI (w 0 (x3 + 1).toNatClampNeg), xA 6 1]) (w' := w) rfl ?_
  refine x_ob (P := 0 = 0 ∧ vp_in (x3 + 2) (w 4 0).toNatClampNeg) (pc' := 926) (ls' := [xA 51 0, xA 6 1, xA 7 2, xI x3]) (st' := [xI (w 0 (x3 + 2).toNatClampNeg), xI (w 0 (x3 + 1).toNatClampNeg), xA 6 1]) (w' := w) rfl ⟨rfl, h.2.1⟩ ?_
  refine x_goN 4 (pc' := 930) (ls' := [xA 51 0, xA 6 1, xA 7 2, xI x3]) (st' := [xI (x3 + 3), xA 51 0, xI (w 0 (x3 + 2).toNatClampNeg), xI (w 0 (x3 + 1).toNatClampNeg), xA 6 1]) (w' := w) rfl ?_
  refine x_ob (P := 0 = 0 ∧ vp_in (x3 + 3) (w 4 0).toNatClampNeg) (pc' := 931) (ls' := [xA 51 0, xA 6 1, xA 7 2, xI x3]) (st' := [xI (w 0 (x3 + 3).toNatClampNeg), xI (w 0 (x3 + 2).toNatClampNeg), xI (w 0 (x3 + 1).toNatClampNeg), xA 6 1]) (w' := w) rfl ⟨rfl, h.2.2.1⟩ ?_
  refine x_goN 4 (pc' := 935) (ls' := [xA 51 0, xA 6 1, xA 7 2, xI x3]) (st' := [xI (x3 + 4), xA 51 0, xI (w 0 (x3 + 3).toNatClampNeg), xI (w 0 (x3 + 2).toNatClampNeg), xI (w 0 (x3 + 1).toNatClampNeg), xA 6 1]) (w' := w) rfl ?_
  refine x_ob (P := 0 = 0 ∧ vp_in (x3 + 4) (w 4 0).toNatClampNeg) (pc' := 936) (ls' := [xA 51 0, xA 6 1, xA 7 2, xI x3]) (st' := [xI (w 0 (x3 + 4).toNatClampNeg), xI (w 0 (x3 + 3).toNatClampNeg), xI (w 0 (x3 + 2).toNatClampNeg), xI (w 0 (x3 + 1).toNatClampNeg), xA 6 1]) (w' := w) rfl ⟨rfl, h.2.2.2.1⟩ ?_
  refine x_goN 4 (pc' := 940) (ls' := [xA 51 0, xA 6 1, xA 7 2, xI x3]) (st' := [xI (x3 + 5), xA 51 0, xI (w 0 (x3 + 4).toNatClampNeg), xI (w 0 (x3 + 3).toNatClampNeg), xI (w 0 (x3 + 2).toNatClampNeg), xI (w 0 (x3 + 1).toNatClampNeg), xA 6 1]) (w' := w) rfl ?_
  refine x_ob (P := 0 = 0 ∧ vp_in (x3 + 5) (w 4 0).toNatClampNeg) (pc' := 941) (ls' := [xA 51 0, xA 6 1, xA 7 2, xI x3]) (st' := [xI (w 0 (x3 + 5).toNatClampNeg), xI (w 0 (x3 + 4).toNatClampNeg), xI (w 0 (x3 + 3).toNatClampNeg), xI (w 0 (x3 + 2).toNatClampNeg), xI (w 0 (x3 + 1).toNatClampNeg), xA 6 1]) (w' := w) rfl ⟨rfl, h.2.2.2.2.1⟩ ?_
  refine x_call (y := m_Vp_copy) (as := [xA 6 1, xI (w 0 (x3 + 1).toNatClampNeg), xI (w 0 (x3 + 2).toNatClampNeg), xI (w 0 (x3 + 3).toNatClampNeg), xI (w 0 (x3 + 4).toNatClampNeg), xI (w 0 (x3 + 5).toNatClampNeg)]) (rst := []) rfl [xA 6 1, xI (w 0 (x3 + 1).toNatClampNeg), xI (w 0 (x3 + 2).toNatClampNeg), xI (w 0 (x3 + 3).toNatClampNeg), xI (w 0 (x3 + 4).toNatClampNeg), xI (w 0 (x3 + 5).toNatClampNeg), xU, xU] rfl ?_
  exact h.2.2.2.2.2
set_option maxRecDepth 100000 in
theorem G_Lw_law_944 {d : Nat} {x3 : Int32} {s0 : Int32} {w : xWd} {Q : xMV → xWd → Prop} (h : (vp_in (x3 + 1) (w 4 0).toNatClampNeg ∧ (vp_in (x3 + 2) (w 4 0).toNatClampNeg ∧ (vp_in (x3 + 3) (w 4 0).toNatClampNeg ∧ (vp_in (x3 + 4) (w 4 0).toNatClampNeg ∧ (vp_in (x3 + 5) (w 4 0).toNatClampNeg ∧ xWp (d + 6) m_Md_copy 0 [xA 7 2, xI (w 0 (x3 + 1).toNatClampNeg), xI (w 0 (x3 + 2).toNatClampNeg), xI (w 0 (x3 + 3).toNatClampNeg), xI (w 0 (x3 + 4).toNatClampNeg), xI (w 0 (x3 + 5).toNatClampNeg), xU, xU, xU, xU] [] w (fun a w' => xWp (d + 7) m_Lw_law 973 [xA 51 0, xA 6 1, xA 7 2, xI x3] (x_pu a [xI s0]) w' Q))))))) : xWp (d + 7) m_Lw_law 944 [xA 51 0, xA 6 1, xA 7 2, xI x3] [xI s0] w Q := by
  refine x_goN 5 (pc' := 949) (ls' := [xA 51 0, xA 6 1, xA 7 2, xI x3]) (st' := [xI (x3 + 1), xA 51 0, xA 7 2, xI s0]) (w' := w) rfl ?_
  refine x_ob (P := 0 = 0 ∧ vp_in (x3 + 1) (w 4 0).toNatClampNeg) (pc' := 950) (ls' := [xA 51 0, xA 6 1, xA 7 2, xI x3]) (st' := [xI (w 0 (x3 + 1).toNatClampNeg), xA 7 2, xI s0]) (w' := w) rfl ⟨rfl, h.1⟩ ?_
  refine x_goN 4 (pc' := 954) (ls' := [xA 51 0, xA 6 1, xA 7 2, xI x3]) (st' := [xI (x3 + 2), xA 51 0, xI (w 0 (x3 + 1).toNatClampNeg), xA 7 2, xI s0]) (w' := w) rfl ?_
  refine x_ob (P := 0 = 0 ∧ vp_in (x3 + 2) (w 4 0).toNatClampNeg) (pc' := 955) (ls' := [xA 51 0, xA 6 1, xA 7 2, xI x3]) (st' := [xI (w 0 (x3 + 2).toNatClampNeg), xI (w 0 (x3 + 1).toNatClampNeg), xA 7 2, xI s0]) (w' := w) rfl ⟨rfl, h.2.1⟩ ?_
  refine x_goN 4 (pc' := 959) (ls' := [xA 51 0, xA 6 1, xA 7 2, xI x3]) (st' := [xI (x3 + 3), xA 51 0, xI (w 0 (x3 + 2).toNatClampNeg), xI (w 0 (x3 + 1).toNatClampNeg), xA 7 2, xI s0]) (w' := w) rfl ?_
  refine x_ob (P := 0 = 0 ∧ vp_in (x3 + 3) (w 4 0).toNatClampNeg) (pc' := 960) (ls' := [xA 51 0, xA 6 1, xA 7 2, xI x3]) (st' := [xI (w 0 (x3 + 3).toNatClampNeg), xI (w 0 (x3 + 2).toNatClampNeg), xI (w 0 (x3 + 1).toNatClampNeg), xA 7 2, xI s0]) (w' := w) rfl ⟨rfl, h.2.2.1⟩ ?_
  refine x_goN 4 (pc' := 964) (ls' := [xA 51 0, xA 6 1, xA 7 2, xI x3]) (st' := [xI (x3 + 4), xA 51 0, xI (w 0 (x3 + 3).toNatClampNeg), xI (w 0 (x3 + 2).toNatClampNeg), xI (w 0 (x3 + 1).toNatClampNeg), xA 7 2, xI s0]) (w' := w) rfl ?_
  refine x_ob (P := 0 = 0 ∧ vp_in (x3 + 4) (w 4 0).toNatClampNeg) (pc' := 965) (ls' := [xA 51 0, xA 6 1, xA 7 2, xI x3]) (st' := [xI (w 0 (x3 + 4).toNatClampNeg), xI (w 0 (x3 + 3).toNatClampNeg), xI (w 0 (x3 + 2).toNatClampNeg), xI (w 0 (x3 + 1).toNatClampNeg), xA 7 2, xI s0]) (w' := w) rfl ⟨rfl, h.2.2.2.1⟩ ?_
  refine x_goN 4 (pc' := 969) (ls' := [xA 51 0, xA 6 1, xA 7 2, xI x3]) (st' := [xI (x3 + 5), xA 51 0, xI (w 0 (x3 + 4).toNatClampNeg), xI (w 0 (x3 + 3).toNatClampNeg), xI (w 0 (x3 + 2).toNatClampNeg), xI (w 0 (x3 + 1).toNatClampNeg), xA 7 2, xI s0]) (w' := w) rfl ?_
  refine x_ob (P := 0 = 0 ∧ vp_in (x3 + 5) (w 4 0).toNatClampNeg) (pc' := 970) (ls' := [xA 51 0, xA 6 1, xA 7 2, xI x3]) (st' := [xI (w 0 (x3 + 5).toNatClampNeg), xI (w 0 (x3 + 4).toNatClampNeg), xI (w 0 (x3 + 3).toNatClampNeg), xI (w 0 (x3 + 2).toNatClampNeg), xI (w 0 (x3 + 1).toNatClampNeg), xA 7 2, xI s0]) (w' := w) rfl ⟨rfl, h.2.2.2.2.1⟩ ?_
  refine x_call (y := m_Md_copy) (as := [xA 7 2, xI (w 0 (x3 + 1).toNatClampNeg), xI (w 0 (x3 + 2).toNatClampNeg), xI (w 0 (x3 + 3).toNatClampNeg), xI (w 0 (x3 + 4).toNatClampNeg), xI (w 0 (x3 + 5).toNatClampNeg)]) (rst := [xI s0]) rfl [xA 7 2, xI (w 0 (x3 + 1).toNatClampNeg), xI (w 0 (x3 + 2).toNatClampNeg), xI (w 0 (x3 + 3).toNatClampNeg), xI (w 0 (x3 + 4).toNatClampNeg), xI (w 0 (x3 + 5).toNatClampNeg), xU, xU, xU, xU] rfl ?_
  exact h.2.2.2.2.2
set_option maxRecDepth 100000 in
theorem G_Lw_law_973 {d : Nat} {x3 : Int32} {s1 : Int32} {s0 : Int32} {w : xWd} {Q : xMV → xWd → Prop} (h : ((s0 = s1 → xWp (d + 7) m_Lw_law 1106 [xA 51 0, xA 6 1, xA 7 2, xI x3] [] w Q) ∧ (¬ (s0 = s1) → Q (xI 0) w))) : xWp (d + 7) m_Lw_law 973 [xA 51 0, xA 6 1, xA 7 2, xI x3] [xI s1, xI s0] w Q := by
  refine x_goN 1 (pc' := if s0 = s1 then 1106 else 976) (ls' := [xA 51 0, xA 6 1, xA 7 2, xI x3]) (st' := []) (w' := w) rfl ?_
  refine x_br (fun c1 => ?_) (fun c1 => ?_)
  · skip
    exact (h.1 c1)
  · skip
    refine x_goN 1 (pc' := 977) (ls' := [xA 51 0, xA 6 1, xA 7 2, xI x3]) (st' := [xI 0]) (w' := w) rfl ?_
    exact x_ret (P := (0 : Int32) = 0 ∨ (0 : Int32) = 1) rfl (by decide) (h.2 c1)
set_option maxRecDepth 100000 in
theorem G_Lw_law_978 {d : Nat} {x3 : Int32} {w : xWd} {Q : xMV → xWd → Prop} (h : (vp_in (x3 + 1) (w 4 0).toNatClampNeg ∧ xWp (d + 6) m_Vp_tell 0 [xA 6 1, xI (w 0 (x3 + 1).toNatClampNeg)] [] w (fun a w' => xWp (d + 7) m_Lw_law 987 [xA 51 0, xA 6 1, xA 7 2, xI x3] (x_pu a []) w' Q))) : xWp (d + 7) m_Lw_law 978 [xA 51 0, xA 6 1, xA 7 2, xI x3] [] w Q := by
  refine x_goN 5 (pc' := 983) (ls' := [xA 51 0, xA 6 1, xA 7 2, xI x3]) (st' := [xI (x3 + 1), xA 51 0, xA 6 1]) (w' := w) rfl ?_
  refine x_ob (P := 0 = 0 ∧ vp_in (x3 + 1) (w 4 0).toNatClampNeg) (pc' := 984) (ls' := [xA 51 0, xA 6 1, xA 7 2, xI x3]) (st' := [xI (w 0 (x3 + 1).toNatClampNeg), xA 6 1]) (w' := w) rfl ⟨rfl, h.1⟩ ?_
  refine x_call (y := m_Vp_tell) (as := [xA 6 1, xI (w 0 (x3 + 1).toNatClampNeg)]) (rst := []) rfl [xA 6 1, xI (w 0 (x3 + 1).toNatClampNeg)] rfl ?_
  exact h.2
set_option maxRecDepth 100000 in
theorem G_Lw_law_987 {d : Nat} {x3 : Int32} {s0 : Int32} {w : xWd} {Q : xMV → xWd → Prop} (h : (vp_in (x3 + 1) (w 4 0).toNatClampNeg ∧ xWp (d + 6) m_Md_tell 0 [xA 7 2, xI (w 0 (x3 + 1).toNatClampNeg), xU] [] w (fun a w' => xWp (d + 7) m_Lw_law 996 [xA 51 0, xA 6 1, xA 7 2, xI x3] (x_pu a [xI s0]) w' Q))) : xWp (d + 7) m_Lw_law 987 [xA 51 0, xA 6 1, xA 7 2, xI x3] [xI s0] w Q := by
  refine x_goN 5 (pc' := 992) (ls' := [xA 51 0, xA 6 1, xA 7 2, xI x3]) (st' := [xI (x3 + 1), xA 51 0, xA 7 2, xI s0]) (w' := w) rfl ?_
  refine x_ob (P := 0 = 0 ∧ vp_in (x3 + 1) (w 4 0).toNatClampNeg) (pc' := 993) (ls' := [xA 51 0, xA 6 1, xA 7 2, xI x3]) (st' := [xI (w 0 (x3 + 1).toNatClampNeg), xA 7 2, xI s0]) (w' := w) rfl ⟨rfl, h.1⟩ ?_
  refine x_call (y := m_Md_tell) (as := [xA 7 2, xI (w 0 (x3 + 1).toNatClampNeg)]) (rst := [xI s0]) rfl [xA 7 2, xI (w 0 (x3 + 1).toNatClampNeg), xU] rfl ?_
  exact h.2
set_option maxRecDepth 100000 in
theorem G_Lw_law_996 {d : Nat} {x3 : Int32} {s1 : Int32} {s0 : Int32} {w : xWd} {Q : xMV → xWd → Prop} (h : ((s0 = s1 → xWp (d + 7) m_Lw_law 1106 [xA 51 0, xA 6 1, xA 7 2, xI x3] [] w Q) ∧ (¬ (s0 = s1) → Q (xI 0) w))) : xWp (d + 7) m_Lw_law 996 [xA 51 0, xA 6 1, xA 7 2, xI x3] [xI s1, xI s0] w Q := by
  refine x_goN 1 (pc' := if s0 = s1 then 1106 else 999) (ls' := [xA 51 0, xA 6 1, xA 7 2, xI x3]) (st' := []) (w' := w) rfl ?_
  refine x_br (fun c1 => ?_) (fun c1 => ?_)
  · skip
    exact (h.1 c1)
  · skip
    refine x_goN 1 (pc' := 1000) (ls' := [xA 51 0, xA 6 1, xA 7 2, xI x3]) (st' := [xI 0]) (w' := w) rfl ?_
    exact x_ret (P := (0 : Int32) = 0 ∨ (0 : Int32) = 1) rfl (by decide) (h.2 c1)
set_option maxRecDepth 100000 in
theorem G_Lw_law_1001 {d : Nat} {x3 : Int32} {w : xWd} {Q : xMV → xWd → Prop} (h : (vp_in (x3 + 1) (w 4 0).toNatClampNeg ∧ xWp (d + 6) m_Vp_label 0 [xA 6 1, xI (w 0 (x3 + 1).toNatClampNeg)] [] w (fun a w' => xWp (d + 7) m_Lw_law 1010 [xA 51 0, xA 6 1, xA 7 2, xI x3] (x_pu a []) w' Q))) : xWp (d + 7) m_Lw_law 1001 [xA 51 0, xA 6 1, xA 7 2, xI x3] [] w Q := by
  refine x_goN 5 (pc' := 1006) (ls' := [xA 51 0, xA 6 1, xA 7 2, xI x3]) (st' := [xI (x3 + 1), xA 51 0, xA 6 1]) (w' := w) rfl ?_
  refine x_ob (P := 0 = 0 ∧ vp_in (x3 + 1) (w 4 0).toNatClampNeg) (pc' := 1007) (ls' := [xA 51 0, xA 6 1, xA 7 2, xI x3]) (st' := [xI (w 0 (x3 + 1).toNatClampNeg), xA 6 1]) (w' := w) rfl ⟨rfl, h.1⟩ ?_
  refine x_call (y := m_Vp_label) (as := [xA 6 1, xI (w 0 (x3 + 1).toNatClampNeg)]) (rst := []) rfl [xA 6 1, xI (w 0 (x3 + 1).toNatClampNeg)] rfl ?_
  exact h.2
set_option maxRecDepth 100000 in
theorem G_Lw_law_1010 {d : Nat} {x3 : Int32} {s0 : Int32} {w : xWd} {Q : xMV → xWd → Prop} (h : (vp_in (x3 + 1) (w 4 0).toNatClampNeg ∧ xWp (d + 6) m_Md_label 0 [xA 7 2, xI (w 0 (x3 + 1).toNatClampNeg)] [] w (fun a w' => xWp (d + 7) m_Lw_law 1019 [xA 51 0, xA 6 1, xA 7 2, xI x3] (x_pu a [xI s0]) w' Q))) : xWp (d + 7) m_Lw_law 1010 [xA 51 0, xA 6 1, xA 7 2, xI x3] [xI s0] w Q := by
  refine x_goN 5 (pc' := 1015) (ls' := [xA 51 0, xA 6 1, xA 7 2, xI x3]) (st' := [xI (x3 + 1), xA 51 0, xA 7 2, xI s0]) (w' := w) rfl ?_
  refine x_ob (P := 0 = 0 ∧ vp_in (x3 + 1) (w 4 0).toNatClampNeg) (pc' := 1016) (ls' := [xA 51 0, xA 6 1, xA 7 2, xI x3]) (st' := [xI (w 0 (x3 + 1).toNatClampNeg), xA 7 2, xI s0]) (w' := w) rfl ⟨rfl, h.1⟩ ?_
  refine x_call (y := m_Md_label) (as := [xA 7 2, xI (w 0 (x3 + 1).toNatClampNeg)]) (rst := [xI s0]) rfl [xA 7 2, xI (w 0 (x3 + 1).toNatClampNeg)] rfl ?_
  exact h.2
set_option maxRecDepth 100000 in
theorem G_Lw_law_1019 {d : Nat} {x3 : Int32} {s1 : Int32} {s0 : Int32} {w : xWd} {Q : xMV → xWd → Prop} (h : ((s0 = s1 → xWp (d + 7) m_Lw_law 1106 [xA 51 0, xA 6 1, xA 7 2, xI x3] [] w Q) ∧ (¬ (s0 = s1) → Q (xI 0) w))) : xWp (d + 7) m_Lw_law 1019 [xA 51 0, xA 6 1, xA 7 2, xI x3] [xI s1, xI s0] w Q := by
  refine x_goN 1 (pc' := if s0 = s1 then 1106 else 1022) (ls' := [xA 51 0, xA 6 1, xA 7 2, xI x3]) (st' := []) (w' := w) rfl ?_
  refine x_br (fun c1 => ?_) (fun c1 => ?_)
  · skip
    exact (h.1 c1)
  · skip
    refine x_goN 1 (pc' := 1023) (ls' := [xA 51 0, xA 6 1, xA 7 2, xI x3]) (st' := [xI 0]) (w' := w) rfl ?_
    exact x_ret (P := (0 : Int32) = 0 ∨ (0 : Int32) = 1) rfl (by decide) (h.2 c1)
set_option maxRecDepth 100000 in
theorem G_Lw_law_1024 {d : Nat} {x3 : Int32} {w : xWd} {Q : xMV → xWd → Prop} (h : (vp_in (x3 + 1) (w 4 0).toNatClampNeg ∧ (vp_in (x3 + 2) (w 4 0).toNatClampNeg ∧ xWp (d + 6) m_Vp_as 0 [xA 6 1, xI (w 0 (x3 + 1).toNatClampNeg), xI (w 0 (x3 + 2).toNatClampNeg)] [] w (fun a w' => xWp (d + 7) m_Lw_law 1038 [xA 51 0, xA 6 1, xA 7 2, xI x3] (x_pu a []) w' Q)))) : xWp (d + 7) m_Lw_law 1024 [xA 51 0, xA 6 1, xA 7 2, xI x3] [] w Q := by
  refine x_goN 5 (pc' := 1029) (ls' := [xA 51 0, xA 6 1, xA 7 2, xI x3]) (st' := [xI (x3 + 1), xA 51 0, xA 6 1]) (w' := w) rfl ?_
  refine x_ob (P := 0 = 0 ∧ vp_in (x3 + 1) (w 4 0).toNatClampNeg) (pc' := 1030) (ls' := [xA 51 0, xA 6 1, xA 7 2, xI x3]) (st' := [xI (w 0 (x3 + 1).toNatClampNeg), xA 6 1]) (w' := w) rfl ⟨rfl, h.1⟩ ?_
  refine x_goN 4 (pc' := 1034) (ls' := [xA 51 0, xA 6 1, xA 7 2, xI x3]) (st' := [xI (x3 + 2), xA 51 0, xI (w 0 (x3 + 1).toNatClampNeg), xA 6 1]) (w' := w) rfl ?_
  refine x_ob (P := 0 = 0 ∧ vp_in (x3 + 2) (w 4 0).toNatClampNeg) (pc' := 1035) (ls' := [xA 51 0, xA 6 1, xA 7 2, xI x3]) (st' := [xI (w 0 (x3 + 2).toNatClampNeg), xI (w 0 (x3 + 1).toNatClampNeg), xA 6 1]) (w' := w) rfl ⟨rfl, h.2.1⟩ ?_
  refine x_call (y := m_Vp_as) (as := [xA 6 1, xI (w 0 (x3 + 1).toNatClampNeg), xI (w 0 (x3 + 2).toNatClampNeg)]) (rst := []) rfl [xA 6 1, xI (w 0 (x3 + 1).toNatClampNeg), xI (w 0 (x3 + 2).toNatClampNeg)] rfl ?_
  exact h.2.2
set_option maxRecDepth 100000 in
theorem G_Lw_law_1038 {d : Nat} {x3 : Int32} {s0 : Int32} {w : xWd} {Q : xMV → xWd → Prop} (h : (vp_in (x3 + 1) (w 4 0).toNatClampNeg ∧ (vp_in (x3 + 2) (w 4 0).toNatClampNeg ∧ xWp (d + 6) m_Md_as 0 [xA 7 2, xI (w 0 (x3 + 1).toNatClampNeg), xI (w 0 (x3 + 2).toNatClampNeg)] [] w (fun a w' => xWp (d + 7) m_Lw_law 1052 [xA 51 0, xA 6 1, xA 7 2, xI x3] (x_pu a [xI s0]) w' Q)))) : xWp (d + 7) m_Lw_law 1038 [xA 51 0, xA 6 1, xA 7 2, xI x3] [xI s0] w Q := by
  refine x_goN 5 (pc' := 1043) (ls' := [xA 51 0, xA 6 1, xA 7 2, xI x3]) (st' := [xI (x3 + 1), xA 51 0, xA 7 2, xI s0]) (w' := w) rfl ?_
  refine x_ob (P := 0 = 0 ∧ vp_in (x3 + 1) (w 4 0).toNatClampNeg) (pc' := 1044) (ls' := [xA 51 0, xA 6 1, xA 7 2, xI x3]) (st' := [xI (w 0 (x3 + 1).toNatClampNeg), xA 7 2, xI s0]) (w' := w) rfl ⟨rfl, h.1⟩ ?_
  refine x_goN 4 (pc' := 1048) (ls' := [xA 51 0, xA 6 1, xA 7 2, xI x3]) (st' := [xI (x3 + 2), xA 51 0, xI (w 0 (x3 + 1).toNatClampNeg), xA 7 2, xI s0]) (w' := w) rfl ?_
  refine x_ob (P := 0 = 0 ∧ vp_in (x3 + 2) (w 4 0).toNatClampNeg) (pc' := 1049) (ls' := [xA 51 0, xA 6 1, xA 7 2, xI x3]) (st' := [xI (w 0 (x3 + 2).toNatClampNeg), xI (w 0 (x3 + 1).toNatClampNeg), xA 7 2, xI s0]) (w' := w) rfl ⟨rfl, h.2.1⟩ ?_
  refine x_call (y := m_Md_as) (as := [xA 7 2, xI (w 0 (x3 + 1).toNatClampNeg), xI (w 0 (x3 + 2).toNatClampNeg)]) (rst := [xI s0]) rfl [xA 7 2, xI (w 0 (x3 + 1).toNatClampNeg), xI (w 0 (x3 + 2).toNatClampNeg)] rfl ?_
  exact h.2.2
set_option maxRecDepth 100000 in
theorem G_Lw_law_1052 {d : Nat} {x3 : Int32} {s1 : Int32} {s0 : Int32} {w : xWd} {Q : xMV → xWd → Prop} (h : ((s0 = s1 → xWp (d + 7) m_Lw_law 1106 [xA 51 0, xA 6 1, xA 7 2, xI x3] [] w Q) ∧ (¬ (s0 = s1) → Q (xI 0) w))) : xWp (d + 7) m_Lw_law 1052 [xA 51 0, xA 6 1, xA 7 2, xI x3] [xI s1, xI s0] w Q := by
  refine x_goN 1 (pc' := if s0 = s1 then 1106 else 1055) (ls' := [xA 51 0, xA 6 1, xA 7 2, xI x3]) (st' := []) (w' := w) rfl ?_
  refine x_br (fun c1 => ?_) (fun c1 => ?_)
  · skip
    exact (h.1 c1)
  · skip
    refine x_goN 1 (pc' := 1056) (ls' := [xA 51 0, xA 6 1, xA 7 2, xI x3]) (st' := [xI 0]) (w' := w) rfl ?_
    exact x_ret (P := (0 : Int32) = 0 ∨ (0 : Int32) = 1) rfl (by decide) (h.2 c1)
set_option maxRecDepth 100000 in
theorem G_Lw_law_1057 {d : Nat} {x3 : Int32} {w : xWd} {Q : xMV → xWd → Prop} (h : xWp (d + 6) m_Vp_trace 0 [xA 6 1] [] w (fun a w' => xWp (d + 7) m_Lw_law 1061 [xA 51 0, xA 6 1, xA 7 2, xI x3] (x_pu a []) w' Q)) : xWp (d + 7) m_Lw_law 1057 [xA 51 0, xA 6 1, xA 7 2, xI x3] [] w Q := by
  refine x_goN 1 (pc' := 1058) (ls' := [xA 51 0, xA 6 1, xA 7 2, xI x3]) (st' := [xA 6 1]) (w' := w) rfl ?_
  refine x_call (y := m_Vp_trace) (as := [xA 6 1]) (rst := []) rfl [xA 6 1] rfl ?_
  exact h
set_option maxRecDepth 100000 in
theorem G_Lw_law_1061 {d : Nat} {x3 : Int32} {s0 : Int32} {w : xWd} {Q : xMV → xWd → Prop} (h : xWp (d + 6) m_Md_trace 0 [xA 7 2] [] w (fun a w' => xWp (d + 7) m_Lw_law 1065 [xA 51 0, xA 6 1, xA 7 2, xI x3] (x_pu a [xI s0]) w' Q)) : xWp (d + 7) m_Lw_law 1061 [xA 51 0, xA 6 1, xA 7 2, xI x3] [xI s0] w Q := by
  refine x_goN 1 (pc' := 1062) (ls' := [xA 51 0, xA 6 1, xA 7 2, xI x3]) (st' := [xA 7 2, xI s0]) (w' := w) rfl ?_
  refine x_call (y := m_Md_trace) (as := [xA 7 2]) (rst := [xI s0]) rfl [xA 7 2] rfl ?_
  exact h
set_option maxRecDepth 100000 in
theorem G_Lw_law_1065 {d : Nat} {x3 : Int32} {s1 : Int32} {s0 : Int32} {w : xWd} {Q : xMV → xWd → Prop} (h : ((s0 = s1 → xWp (d + 7) m_Lw_law 1106 [xA 51 0, xA 6 1, xA 7 2, xI x3] [] w Q) ∧ (¬ (s0 = s1) → Q (xI 0) w))) : xWp (d + 7) m_Lw_law 1065 [xA 51 0, xA 6 1, xA 7 2, xI x3] [xI s1, xI s0] w Q := by
  refine x_goN 1 (pc' := if s0 = s1 then 1106 else 1068) (ls' := [xA 51 0, xA 6 1, xA 7 2, xI x3]) (st' := []) (w' := w) rfl ?_
  refine x_br (fun c1 => ?_) (fun c1 => ?_)
  · skip
    exact (h.1 c1)
  · skip
    refine x_goN 1 (pc' := 1069) (ls' := [xA 51 0, xA 6 1, xA 7 2, xI x3]) (st' := [xI 0]) (w' := w) rfl ?_
    exact x_ret (P := (0 : Int32) = 0 ∨ (0 : Int32) = 1) rfl (by decide) (h.2 c1)
set_option maxRecDepth 100000 in
theorem G_Lw_law_1070 {d : Nat} {x3 : Int32} {w : xWd} {Q : xMV → xWd → Prop} (h : xWp (d + 6) m_Vp_fault 0 [xA 6 1] [] w (fun a w' => xWp (d + 7) m_Lw_law 1074 [xA 51 0, xA 6 1, xA 7 2, xI x3] (x_pu a []) w' Q)) : xWp (d + 7) m_Lw_law 1070 [xA 51 0, xA 6 1, xA 7 2, xI x3] [] w Q := by
  refine x_goN 1 (pc' := 1071) (ls' := [xA 51 0, xA 6 1, xA 7 2, xI x3]) (st' := [xA 6 1]) (w' := w) rfl ?_
  refine x_call (y := m_Vp_fault) (as := [xA 6 1]) (rst := []) rfl [xA 6 1] rfl ?_
  exact h
set_option maxRecDepth 100000 in
theorem G_Lw_law_1074 {d : Nat} {x3 : Int32} {s0 : Int32} {w : xWd} {Q : xMV → xWd → Prop} (h : xWp (d + 6) m_Md_fault 0 [xA 7 2] [] w (fun a w' => xWp (d + 7) m_Lw_law 1078 [xA 51 0, xA 6 1, xA 7 2, xI x3] (x_pu a [xI s0]) w' Q)) : xWp (d + 7) m_Lw_law 1074 [xA 51 0, xA 6 1, xA 7 2, xI x3] [xI s0] w Q := by
  refine x_goN 1 (pc' := 1075) (ls' := [xA 51 0, xA 6 1, xA 7 2, xI x3]) (st' := [xA 7 2, xI s0]) (w' := w) rfl ?_
  refine x_call (y := m_Md_fault) (as := [xA 7 2]) (rst := [xI s0]) rfl [xA 7 2] rfl ?_
  exact h
set_option maxRecDepth 100000 in
theorem G_Lw_law_1078 {d : Nat} {x3 : Int32} {s1 : Int32} {s0 : Int32} {w : xWd} {Q : xMV → xWd → Prop} (h : ((s0 = s1 → xWp (d + 7) m_Lw_law 1106 [xA 51 0, xA 6 1, xA 7 2, xI x3] [] w Q) ∧ (¬ (s0 = s1) → Q (xI 0) w))) : xWp (d + 7) m_Lw_law 1078 [xA 51 0, xA 6 1, xA 7 2, xI x3] [xI s1, xI s0] w Q := by
  refine x_goN 1 (pc' := if s0 = s1 then 1106 else 1081) (ls' := [xA 51 0, xA 6 1, xA 7 2, xI x3]) (st' := []) (w' := w) rfl ?_
  refine x_br (fun c1 => ?_) (fun c1 => ?_)
  · skip
    exact (h.1 c1)
  · skip
    refine x_goN 1 (pc' := 1082) (ls' := [xA 51 0, xA 6 1, xA 7 2, xI x3]) (st' := [xI 0]) (w' := w) rfl ?_
    exact x_ret (P := (0 : Int32) = 0 ∨ (0 : Int32) = 1) rfl (by decide) (h.2 c1)
set_option maxRecDepth 100000 in
theorem G_Lw_law_1083 {d : Nat} {x3 : Int32} {w : xWd} {Q : xMV → xWd → Prop} (h : (vp_in (x3 + 1) (w 4 0).toNatClampNeg ∧ xWp (d + 6) m_Vp_many 0 [xA 6 1, xI (w 0 (x3 + 1).toNatClampNeg)] [] w (fun a w' => xWp (d + 7) m_Lw_law 1092 [xA 51 0, xA 6 1, xA 7 2, xI x3] (x_pu a []) w' Q))) : xWp (d + 7) m_Lw_law 1083 [xA 51 0, xA 6 1, xA 7 2, xI x3] [] w Q := by
  refine x_goN 5 (pc' := 1088) (ls' := [xA 51 0, xA 6 1, xA 7 2, xI x3]) (st' := [xI (x3 + 1), xA 51 0, xA 6 1]) (w' := w) rfl ?_
  refine x_ob (P := 0 = 0 ∧ vp_in (x3 + 1) (w 4 0).toNatClampNeg) (pc' := 1089) (ls' := [xA 51 0, xA 6 1, xA 7 2, xI x3]) (st' := [xI (w 0 (x3 + 1).toNatClampNeg), xA 6 1]) (w' := w) rfl ⟨rfl, h.1⟩ ?_
  refine x_call (y := m_Vp_many) (as := [xA 6 1, xI (w 0 (x3 + 1).toNatClampNeg)]) (rst := []) rfl [xA 6 1, xI (w 0 (x3 + 1).toNatClampNeg)] rfl ?_
  exact h.2
set_option maxRecDepth 100000 in
theorem G_Lw_law_1092 {d : Nat} {x3 : Int32} {s0 : Int32} {w : xWd} {Q : xMV → xWd → Prop} (h : (vp_in (x3 + 1) (w 4 0).toNatClampNeg ∧ xWp (d + 6) m_Md_many 0 [xA 7 2, xI (w 0 (x3 + 1).toNatClampNeg), xU, xU] [] w (fun a w' => xWp (d + 7) m_Lw_law 1101 [xA 51 0, xA 6 1, xA 7 2, xI x3] (x_pu a [xI s0]) w' Q))) : xWp (d + 7) m_Lw_law 1092 [xA 51 0, xA 6 1, xA 7 2, xI x3] [xI s0] w Q := by
  refine x_goN 5 (pc' := 1097) (ls' := [xA 51 0, xA 6 1, xA 7 2, xI x3]) (st' := [xI (x3 + 1), xA 51 0, xA 7 2, xI s0]) (w' := w) rfl ?_
  refine x_ob (P := 0 = 0 ∧ vp_in (x3 + 1) (w 4 0).toNatClampNeg) (pc' := 1098) (ls' := [xA 51 0, xA 6 1, xA 7 2, xI x3]) (st' := [xI (w 0 (x3 + 1).toNatClampNeg), xA 7 2, xI s0]) (w' := w) rfl ⟨rfl, h.1⟩ ?_
  refine x_call (y := m_Md_many) (as := [xA 7 2, xI (w 0 (x3 + 1).toNatClampNeg)]) (rst := [xI s0]) rfl [xA 7 2, xI (w 0 (x3 + 1).toNatClampNeg), xU, xU] rfl ?_
  exact h.2
set_option maxRecDepth 100000 in
theorem G_Lw_law_1101 {d : Nat} {x3 : Int32} {s1 : Int32} {s0 : Int32} {w : xWd} {Q : xMV → xWd → Prop} (h : ((s0 = s1 → xWp (d + 7) m_Lw_law 1106 [xA 51 0, xA 6 1, xA 7 2, xI x3] [] w Q) ∧ (¬ (s0 = s1) → Q (xI 0) w))) : xWp (d + 7) m_Lw_law 1101 [xA 51 0, xA 6 1, xA 7 2, xI x3] [xI s1, xI s0] w Q := by
  refine x_goN 1 (pc' := if s0 = s1 then 1106 else 1104) (ls' := [xA 51 0, xA 6 1, xA 7 2, xI x3]) (st' := []) (w' := w) rfl ?_
  refine x_br (fun c1 => ?_) (fun c1 => ?_)
  · skip
    exact (h.1 c1)
  · skip
    refine x_goN 1 (pc' := 1105) (ls' := [xA 51 0, xA 6 1, xA 7 2, xI x3]) (st' := [xI 0]) (w' := w) rfl ?_
    exact x_ret (P := (0 : Int32) = 0 ∨ (0 : Int32) = 1) rfl (by decide) (h.2 c1)
set_option maxRecDepth 100000 in
theorem G_Lw_law_1106 {d : Nat} {x3 : Int32} {w : xWd} {Q : xMV → xWd → Prop} (h : xWp (d + 7) m_Lw_law 18 [xA 51 0, xA 6 1, xA 7 2, xI (x3 + 6)] [] w Q) : xWp (d + 7) m_Lw_law 1106 [xA 51 0, xA 6 1, xA 7 2, xI x3] [] w Q := by
  refine x_goN 2 (pc' := 18) (ls' := [xA 51 0, xA 6 1, xA 7 2, xI (x3 + 6)]) (st' := []) (w' := w) rfl ?_
  exact h
section LW
variable {j L : Nat} {s : xS} {w : xWd} {Q : xMV → xWd → Prop}
/-- what a turn of the loop leads to -/
def lK (j : Nat) (w : xWd) (Q : xMV → xWd → Prop) : Prop := ∀ (s' : xS) (w' : xWd), sC s' w' → sM s' w' → w' 4 = w 4 → xWp 7 m_Lw_law 1106 [xA 51 0, xA 6 1, xA 7 2, xI (nI j)] [] w' Q
theorem W_lines (K : lK j w Q) (hC : sC s w) (hM : sM s w) (h4 : w 4 0 = nI L) (hL : L ≤ 3072) (hj : j + 6 ≤ L) : xWp 7 m_Lw_law 160 [xA 51 0, xA 6 1, xA 7 2, xI (nI j)] [] w Q := by
  obtain ⟨r, s', hc, hm⟩ := O_lines s (w 0 (j + 1)) (w 0 (j + 2)) (w 0 (j + 3)) (w 0 (j + 4))
  have q1 : nI j + 1 = nI (j + 1) := nI_add j 1
  have i1 : vp_in (nI (j + 1)) L := vp_in_nI (by omega) (by omega)
  have q2 : nI j + 2 = nI (j + 2) := nI_add j 2
  have i2 : vp_in (nI (j + 2)) L := vp_in_nI (by omega) (by omega)
  have q3 : nI j + 3 = nI (j + 3) := nI_add j 3
  have i3 : vp_in (nI (j + 3)) L := vp_in_nI (by omega) (by omega)
  have q4 : nI j + 4 = nI (j + 4) := nI_add j 4
  have i4 : vp_in (nI (j + 4)) L := vp_in_nI (by omega) (by omega)
  refine G_Lw_law_160 ?_
  rw [h4, z_cl' (show L < 2 ^ 31 by omega), q1, q2, q3, q4, z_cl' (show j + 1 < 2 ^ 31 by omega), z_cl' (show j + 2 < 2 ^ 31 by omega), z_cl' (show j + 3 < 2 ^ 31 by omega), z_cl' (show j + 4 < 2 ^ 31 by omega)]
  refine ⟨i1, i2, i3, i4, xWp_mono (hc w hC) ?_⟩
  rintro a w1 ⟨rfl, hC1, f1⟩
  have e4 : w1 4 = w 4 := f1 4 (by omega)
  have e0 : w1 0 = w 0 := f1 0 (by omega)
  refine G_Lw_law_184 ?_
  rw [e4, e0]
  rw [h4, z_cl' (show L < 2 ^ 31 by omega), q1, q2, q3, q4, z_cl' (show j + 1 < 2 ^ 31 by omega), z_cl' (show j + 2 < 2 ^ 31 by omega), z_cl' (show j + 3 < 2 ^ 31 by omega), z_cl' (show j + 4 < 2 ^ 31 by omega)]
  refine ⟨i1, i2, i3, i4, xWp_mono (hm w1 (sM_fC hM f1)) ?_⟩
  rintro a w2 ⟨rfl, hM2, f2⟩
  exact G_Lw_law_208 ⟨fun _ => K s' w2 (sC_fM hC1 f2) hM2 ((f2 4 (by decide) (by decide)).trans e4), fun c => absurd rfl c⟩
theorem W_ofLine (K : lK j w Q) (hC : sC s w) (hM : sM s w) (h4 : w 4 0 = nI L) (hL : L ≤ 3072) (hj : j + 6 ≤ L) : xWp 7 m_Lw_law 213 [xA 51 0, xA 6 1, xA 7 2, xI (nI j)] [] w Q := by
  obtain ⟨r, s', hc, hm⟩ := O_ofLine s (w 0 (j + 1)) (w 0 (j + 2))
  have q1 : nI j + 1 = nI (j + 1) := nI_add j 1
  have i1 : vp_in (nI (j + 1)) L := vp_in_nI (by omega) (by omega)
  have q2 : nI j + 2 = nI (j + 2) := nI_add j 2
  have i2 : vp_in (nI (j + 2)) L := vp_in_nI (by omega) (by omega)
  refine G_Lw_law_213 ?_
  rw [h4, z_cl' (show L < 2 ^ 31 by omega), q1, q2, z_cl' (show j + 1 < 2 ^ 31 by omega), z_cl' (show j + 2 < 2 ^ 31 by omega)]
  refine ⟨i1, i2, xWp_mono (hc w hC) ?_⟩
  rintro a w1 ⟨rfl, hC1, f1⟩
  have e4 : w1 4 = w 4 := f1 4 (by omega)
  have e0 : w1 0 = w 0 := f1 0 (by omega)
  refine G_Lw_law_227 ?_
  rw [e4, e0]
  rw [h4, z_cl' (show L < 2 ^ 31 by omega), q1, q2, z_cl' (show j + 1 < 2 ^ 31 by omega), z_cl' (show j + 2 < 2 ^ 31 by omega)]
  refine ⟨i1, i2, xWp_mono (hm w1 (sM_fC hM f1)) ?_⟩
  rintro a w2 ⟨rfl, hM2, f2⟩
  exact G_Lw_law_241 ⟨fun _ => K s' w2 (sC_fM hC1 f2) hM2 ((f2 4 (by decide) (by decide)).trans e4), fun c => absurd rfl c⟩
theorem W_used (K : lK j w Q) (hC : sC s w) (hM : sM s w) (h4 : w 4 0 = nI L) (hL : L ≤ 3072) (hj : j + 6 ≤ L) : xWp 7 m_Lw_law 246 [xA 51 0, xA 6 1, xA 7 2, xI (nI j)] [] w Q := by
  obtain ⟨r, s', hc, hm⟩ := O_used s (w 0 (j + 1)) (w 0 (j + 2))
  have q1 : nI j + 1 = nI (j + 1) := nI_add j 1
  have i1 : vp_in (nI (j + 1)) L := vp_in_nI (by omega) (by omega)
  have q2 : nI j + 2 = nI (j + 2) := nI_add j 2
  have i2 : vp_in (nI (j + 2)) L := vp_in_nI (by omega) (by omega)
  refine G_Lw_law_246 ?_
  rw [h4, z_cl' (show L < 2 ^ 31 by omega), q1, q2, z_cl' (show j + 1 < 2 ^ 31 by omega), z_cl' (show j + 2 < 2 ^ 31 by omega)]
  refine ⟨i1, i2, xWp_mono (hc w hC) ?_⟩
  rintro a w1 ⟨rfl, hC1, f1⟩
  have e4 : w1 4 = w 4 := f1 4 (by omega)
  have e0 : w1 0 = w 0 := f1 0 (by omega)
  refine G_Lw_law_260 ?_
  rw [e4, e0]
  rw [h4, z_cl' (show L < 2 ^ 31 by omega), q1, q2, z_cl' (show j + 1 < 2 ^ 31 by omega), z_cl' (show j + 2 < 2 ^ 31 by omega)]
  refine ⟨i1, i2, xWp_mono (hm w1 (sM_fC hM f1)) ?_⟩
  rintro a w2 ⟨rfl, hM2, f2⟩
  exact G_Lw_law_274 ⟨fun _ => K s' w2 (sC_fM hC1 f2) hM2 ((f2 4 (by decide) (by decide)).trans e4), fun c => absurd rfl c⟩
theorem W_reuse (K : lK j w Q) (hC : sC s w) (hM : sM s w) (h4 : w 4 0 = nI L) (hL : L ≤ 3072) (hj : j + 6 ≤ L) : xWp 7 m_Lw_law 279 [xA 51 0, xA 6 1, xA 7 2, xI (nI j)] [] w Q := by
  obtain ⟨r, s', hc, hm⟩ := O_reuse s (w 0 (j + 1)) (w 0 (j + 2)) (w 0 (j + 3))
  have q1 : nI j + 1 = nI (j + 1) := nI_add j 1
  have i1 : vp_in (nI (j + 1)) L := vp_in_nI (by omega) (by omega)
  have q2 : nI j + 2 = nI (j + 2) := nI_add j 2
  have i2 : vp_in (nI (j + 2)) L := vp_in_nI (by omega) (by omega)
  have q3 : nI j + 3 = nI (j + 3) := nI_add j 3
  have i3 : vp_in (nI (j + 3)) L := vp_in_nI (by omega) (by omega)
  refine G_Lw_law_279 ?_
  rw [h4, z_cl' (show L < 2 ^ 31 by omega), q1, q2, q3, z_cl' (show j + 1 < 2 ^ 31 by omega), z_cl' (show j + 2 < 2 ^ 31 by omega), z_cl' (show j + 3 < 2 ^ 31 by omega)]
  refine ⟨i1, i2, i3, xWp_mono (hc w hC) ?_⟩
  rintro a w1 ⟨rfl, hC1, f1⟩
  have e4 : w1 4 = w 4 := f1 4 (by omega)
  have e0 : w1 0 = w 0 := f1 0 (by omega)
  refine G_Lw_law_298 ?_
  rw [e4, e0]
  rw [h4, z_cl' (show L < 2 ^ 31 by omega), q1, q2, q3, z_cl' (show j + 1 < 2 ^ 31 by omega), z_cl' (show j + 2 < 2 ^ 31 by omega), z_cl' (show j + 3 < 2 ^ 31 by omega)]
  refine ⟨i1, i2, i3, xWp_mono (hm w1 (sM_fC hM f1)) ?_⟩
  rintro a w2 ⟨rfl, hM2, f2⟩
  exact G_Lw_law_317 ⟨fun _ => K s' w2 (sC_fM hC1 f2) hM2 ((f2 4 (by decide) (by decide)).trans e4), fun c => absurd rfl c⟩
theorem W_grow (K : lK j w Q) (hC : sC s w) (hM : sM s w) (h4 : w 4 0 = nI L) (hL : L ≤ 3072) (hj : j + 6 ≤ L) : xWp 7 m_Lw_law 322 [xA 51 0, xA 6 1, xA 7 2, xI (nI j)] [] w Q := by
  obtain ⟨r, s', hc, hm⟩ := O_grow s (w 0 (j + 1)) (w 0 (j + 2)) (w 0 (j + 3)) (w 0 (j + 4))
  have q1 : nI j + 1 = nI (j + 1) := nI_add j 1
  have i1 : vp_in (nI (j + 1)) L := vp_in_nI (by omega) (by omega)
  have q2 : nI j + 2 = nI (j + 2) := nI_add j 2
  have i2 : vp_in (nI (j + 2)) L := vp_in_nI (by omega) (by omega)
  have q3 : nI j + 3 = nI (j + 3) := nI_add j 3
  have i3 : vp_in (nI (j + 3)) L := vp_in_nI (by omega) (by omega)
  have q4 : nI j + 4 = nI (j + 4) := nI_add j 4
  have i4 : vp_in (nI (j + 4)) L := vp_in_nI (by omega) (by omega)
  refine G_Lw_law_322 ?_
  rw [h4, z_cl' (show L < 2 ^ 31 by omega), q1, q2, q3, q4, z_cl' (show j + 1 < 2 ^ 31 by omega), z_cl' (show j + 2 < 2 ^ 31 by omega), z_cl' (show j + 3 < 2 ^ 31 by omega), z_cl' (show j + 4 < 2 ^ 31 by omega)]
  refine ⟨i1, i2, i3, i4, xWp_mono (hc w hC) ?_⟩
  rintro a w1 ⟨rfl, hC1, f1⟩
  have e4 : w1 4 = w 4 := f1 4 (by omega)
  have e0 : w1 0 = w 0 := f1 0 (by omega)
  refine G_Lw_law_346 ?_
  rw [e4, e0]
  rw [h4, z_cl' (show L < 2 ^ 31 by omega), q1, q2, q3, q4, z_cl' (show j + 1 < 2 ^ 31 by omega), z_cl' (show j + 2 < 2 ^ 31 by omega), z_cl' (show j + 3 < 2 ^ 31 by omega), z_cl' (show j + 4 < 2 ^ 31 by omega)]
  refine ⟨i1, i2, i3, i4, xWp_mono (hm w1 (sM_fC hM f1)) ?_⟩
  rintro a w2 ⟨rfl, hM2, f2⟩
  exact G_Lw_law_370 ⟨fun _ => K s' w2 (sC_fM hC1 f2) hM2 ((f2 4 (by decide) (by decide)).trans e4), fun c => absurd rfl c⟩
theorem W_cut (K : lK j w Q) (hC : sC s w) (hM : sM s w) (h4 : w 4 0 = nI L) (hL : L ≤ 3072) (hj : j + 6 ≤ L) : xWp 7 m_Lw_law 375 [xA 51 0, xA 6 1, xA 7 2, xI (nI j)] [] w Q := by
  obtain ⟨r, s', hc, hm⟩ := O_cut s 
  refine G_Lw_law_375 ?_
  refine xWp_mono (hc w hC) ?_
  rintro a w1 ⟨rfl, hC1, f1⟩
  have e4 : w1 4 = w 4 := f1 4 (by omega)
  have e0 : w1 0 = w 0 := f1 0 (by omega)
  refine G_Lw_law_379 ?_
  refine xWp_mono (hm w1 (sM_fC hM f1)) ?_
  rintro a w2 ⟨rfl, hM2, f2⟩
  exact G_Lw_law_383 ⟨fun _ => K s' w2 (sC_fM hC1 f2) hM2 ((f2 4 (by decide) (by decide)).trans e4), fun c => absurd rfl c⟩
theorem W_day (K : lK j w Q) (hC : sC s w) (hM : sM s w) (h4 : w 4 0 = nI L) (hL : L ≤ 3072) (hj : j + 6 ≤ L) : xWp 7 m_Lw_law 388 [xA 51 0, xA 6 1, xA 7 2, xI (nI j)] [] w Q := by
  obtain ⟨r, s', hc, hm⟩ := O_day s (w 0 (j + 1)) (w 0 (j + 2)) (w 0 (j + 3)) (w 0 (j + 4)) (w 0 (j + 5))
  have q1 : nI j + 1 = nI (j + 1) := nI_add j 1
  have i1 : vp_in (nI (j + 1)) L := vp_in_nI (by omega) (by omega)
  have q2 : nI j + 2 = nI (j + 2) := nI_add j 2
  have i2 : vp_in (nI (j + 2)) L := vp_in_nI (by omega) (by omega)
  have q3 : nI j + 3 = nI (j + 3) := nI_add j 3
  have i3 : vp_in (nI (j + 3)) L := vp_in_nI (by omega) (by omega)
  have q4 : nI j + 4 = nI (j + 4) := nI_add j 4
  have i4 : vp_in (nI (j + 4)) L := vp_in_nI (by omega) (by omega)
  have q5 : nI j + 5 = nI (j + 5) := nI_add j 5
  have i5 : vp_in (nI (j + 5)) L := vp_in_nI (by omega) (by omega)
  refine G_Lw_law_388 ?_
  rw [h4, z_cl' (show L < 2 ^ 31 by omega), q1, q2, q3, q4, q5, z_cl' (show j + 1 < 2 ^ 31 by omega), z_cl' (show j + 2 < 2 ^ 31 by omega), z_cl' (show j + 3 < 2 ^ 31 by omega), z_cl' (show j + 4 < 2 ^ 31 by omega), z_cl' (show j + 5 < 2 ^ 31 by omega)]
  refine ⟨i1, i2, i3, i4, i5, xWp_mono (hc w hC) ?_⟩
  rintro a w1 ⟨rfl, hC1, f1⟩
  have e4 : w1 4 = w 4 := f1 4 (by omega)
  have e0 : w1 0 = w 0 := f1 0 (by omega)
  refine G_Lw_law_417 ?_
  rw [e4, e0]
  rw [h4, z_cl' (show L < 2 ^ 31 by omega), q1, q2, q3, q4, q5, z_cl' (show j + 1 < 2 ^ 31 by omega), z_cl' (show j + 2 < 2 ^ 31 by omega), z_cl' (show j + 3 < 2 ^ 31 by omega), z_cl' (show j + 4 < 2 ^ 31 by omega), z_cl' (show j + 5 < 2 ^ 31 by omega)]
  refine ⟨i1, i2, i3, i4, i5, xWp_mono (hm w1 (sM_fC hM f1)) ?_⟩
  rintro a w2 ⟨rfl, hM2, f2⟩
  exact G_Lw_law_446 ⟨fun _ => K s' w2 (sC_fM hC1 f2) hM2 ((f2 4 (by decide) (by decide)).trans e4), fun c => absurd rfl c⟩
theorem W_cross (K : lK j w Q) (hC : sC s w) (hM : sM s w) (h4 : w 4 0 = nI L) (hL : L ≤ 3072) (hj : j + 6 ≤ L) : xWp 7 m_Lw_law 451 [xA 51 0, xA 6 1, xA 7 2, xI (nI j)] [] w Q := by
  obtain ⟨r, s', hc, hm⟩ := O_cross s (w 0 (j + 1)) (w 0 (j + 2))
  have q1 : nI j + 1 = nI (j + 1) := nI_add j 1
  have i1 : vp_in (nI (j + 1)) L := vp_in_nI (by omega) (by omega)
  have q2 : nI j + 2 = nI (j + 2) := nI_add j 2
  have i2 : vp_in (nI (j + 2)) L := vp_in_nI (by omega) (by omega)
  refine G_Lw_law_451 ?_
  rw [h4, z_cl' (show L < 2 ^ 31 by omega), q1, q2, z_cl' (show j + 1 < 2 ^ 31 by omega), z_cl' (show j + 2 < 2 ^ 31 by omega)]
  refine ⟨i1, i2, xWp_mono (hc w hC) ?_⟩
  rintro a w1 ⟨rfl, hC1, f1⟩
  have e4 : w1 4 = w 4 := f1 4 (by omega)
  have e0 : w1 0 = w 0 := f1 0 (by omega)
  refine G_Lw_law_465 ?_
  rw [e4, e0]
  rw [h4, z_cl' (show L < 2 ^ 31 by omega), q1, q2, z_cl' (show j + 1 < 2 ^ 31 by omega), z_cl' (show j + 2 < 2 ^ 31 by omega)]
  refine ⟨i1, i2, xWp_mono (hm w1 (sM_fC hM f1)) ?_⟩
  rintro a w2 ⟨rfl, hM2, f2⟩
  exact G_Lw_law_479 ⟨fun _ => K s' w2 (sC_fM hC1 f2) hM2 ((f2 4 (by decide) (by decide)).trans e4), fun c => absurd rfl c⟩
theorem W_most (K : lK j w Q) (hC : sC s w) (hM : sM s w) (h4 : w 4 0 = nI L) (hL : L ≤ 3072) (hj : j + 6 ≤ L) : xWp 7 m_Lw_law 484 [xA 51 0, xA 6 1, xA 7 2, xI (nI j)] [] w Q := by
  obtain ⟨r, s', hc, hm⟩ := O_most s (w 0 (j + 1))
  have q1 : nI j + 1 = nI (j + 1) := nI_add j 1
  have i1 : vp_in (nI (j + 1)) L := vp_in_nI (by omega) (by omega)
  refine G_Lw_law_484 ?_
  rw [h4, z_cl' (show L < 2 ^ 31 by omega), q1, z_cl' (show j + 1 < 2 ^ 31 by omega)]
  refine ⟨i1, xWp_mono (hc w hC) ?_⟩
  rintro a w1 ⟨rfl, hC1, f1⟩
  have e4 : w1 4 = w 4 := f1 4 (by omega)
  have e0 : w1 0 = w 0 := f1 0 (by omega)
  refine G_Lw_law_493 ?_
  rw [e4, e0]
  rw [h4, z_cl' (show L < 2 ^ 31 by omega), q1, z_cl' (show j + 1 < 2 ^ 31 by omega)]
  refine ⟨i1, xWp_mono (hm w1 (sM_fC hM f1)) ?_⟩
  rintro a w2 ⟨rfl, hM2, f2⟩
  exact G_Lw_law_502 ⟨fun _ => K s' w2 (sC_fM hC1 f2) hM2 ((f2 4 (by decide) (by decide)).trans e4), fun c => absurd rfl c⟩
theorem W_next (K : lK j w Q) (hC : sC s w) (hM : sM s w) (h4 : w 4 0 = nI L) (hL : L ≤ 3072) (hj : j + 6 ≤ L) : xWp 7 m_Lw_law 507 [xA 51 0, xA 6 1, xA 7 2, xI (nI j)] [] w Q := by
  obtain ⟨r, s', hc, hm⟩ := O_next s (w 0 (j + 1)) (w 0 (j + 2))
  have q1 : nI j + 1 = nI (j + 1) := nI_add j 1
  have i1 : vp_in (nI (j + 1)) L := vp_in_nI (by omega) (by omega)
  have q2 : nI j + 2 = nI (j + 2) := nI_add j 2
  have i2 : vp_in (nI (j + 2)) L := vp_in_nI (by omega) (by omega)
  refine G_Lw_law_507 ?_
  rw [h4, z_cl' (show L < 2 ^ 31 by omega), q1, q2, z_cl' (show j + 1 < 2 ^ 31 by omega), z_cl' (show j + 2 < 2 ^ 31 by omega)]
  refine ⟨i1, i2, xWp_mono (hc w hC) ?_⟩
  rintro a w1 ⟨rfl, hC1, f1⟩
  have e4 : w1 4 = w 4 := f1 4 (by omega)
  have e0 : w1 0 = w 0 := f1 0 (by omega)
  refine G_Lw_law_521 ?_
  rw [e4, e0]
  rw [h4, z_cl' (show L < 2 ^ 31 by omega), q1, q2, z_cl' (show j + 1 < 2 ^ 31 by omega), z_cl' (show j + 2 < 2 ^ 31 by omega)]
  refine ⟨i1, i2, xWp_mono (hm w1 (sM_fC hM f1)) ?_⟩
  rintro a w2 ⟨rfl, hM2, f2⟩
  exact G_Lw_law_535 ⟨fun _ => K s' w2 (sC_fM hC1 f2) hM2 ((f2 4 (by decide) (by decide)).trans e4), fun c => absurd rfl c⟩
theorem W_hold (K : lK j w Q) (hC : sC s w) (hM : sM s w) (h4 : w 4 0 = nI L) (hL : L ≤ 3072) (hj : j + 6 ≤ L) : xWp 7 m_Lw_law 540 [xA 51 0, xA 6 1, xA 7 2, xI (nI j)] [] w Q := by
  obtain ⟨r, s', hc, hm⟩ := O_hold s (w 0 (j + 1)) (w 0 (j + 2))
  have q1 : nI j + 1 = nI (j + 1) := nI_add j 1
  have i1 : vp_in (nI (j + 1)) L := vp_in_nI (by omega) (by omega)
  have q2 : nI j + 2 = nI (j + 2) := nI_add j 2
  have i2 : vp_in (nI (j + 2)) L := vp_in_nI (by omega) (by omega)
  refine G_Lw_law_540 ?_
  rw [h4, z_cl' (show L < 2 ^ 31 by omega), q1, q2, z_cl' (show j + 1 < 2 ^ 31 by omega), z_cl' (show j + 2 < 2 ^ 31 by omega)]
  refine ⟨i1, i2, xWp_mono (hc w hC) ?_⟩
  rintro a w1 ⟨rfl, hC1, f1⟩
  have e4 : w1 4 = w 4 := f1 4 (by omega)
  have e0 : w1 0 = w 0 := f1 0 (by omega)
  refine G_Lw_law_554 ?_
  rw [e4, e0]
  rw [h4, z_cl' (show L < 2 ^ 31 by omega), q1, q2, z_cl' (show j + 1 < 2 ^ 31 by omega), z_cl' (show j + 2 < 2 ^ 31 by omega)]
  refine ⟨i1, i2, xWp_mono (hm w1 (sM_fC hM f1)) ?_⟩
  rintro a w2 ⟨rfl, hM2, f2⟩
  exact G_Lw_law_568 ⟨fun _ => K s' w2 (sC_fM hC1 f2) hM2 ((f2 4 (by decide) (by decide)).trans e4), fun c => absurd rfl c⟩
theorem W_copies (K : lK j w Q) (hC : sC s w) (hM : sM s w) (h4 : w 4 0 = nI L) (hL : L ≤ 3072) (hj : j + 6 ≤ L) : xWp 7 m_Lw_law 573 [xA 51 0, xA 6 1, xA 7 2, xI (nI j)] [] w Q := by
  obtain ⟨r, s', hc, hm⟩ := O_copies s (w 0 (j + 1)) (w 0 (j + 2)) (w 0 (j + 3)) (w 0 (j + 4)) (w 0 (j + 5))
  have q1 : nI j + 1 = nI (j + 1) := nI_add j 1
  have i1 : vp_in (nI (j + 1)) L := vp_in_nI (by omega) (by omega)
  have q2 : nI j + 2 = nI (j + 2) := nI_add j 2
  have i2 : vp_in (nI (j + 2)) L := vp_in_nI (by omega) (by omega)
  have q3 : nI j + 3 = nI (j + 3) := nI_add j 3
  have i3 : vp_in (nI (j + 3)) L := vp_in_nI (by omega) (by omega)
  have q4 : nI j + 4 = nI (j + 4) := nI_add j 4
  have i4 : vp_in (nI (j + 4)) L := vp_in_nI (by omega) (by omega)
  have q5 : nI j + 5 = nI (j + 5) := nI_add j 5
  have i5 : vp_in (nI (j + 5)) L := vp_in_nI (by omega) (by omega)
  refine G_Lw_law_573 ?_
  rw [h4, z_cl' (show L < 2 ^ 31 by omega), q1, q2, q3, q4, q5, z_cl' (show j + 1 < 2 ^ 31 by omega), z_cl' (show j + 2 < 2 ^ 31 by omega), z_cl' (show j + 3 < 2 ^ 31 by omega), z_cl' (show j + 4 < 2 ^ 31 by omega), z_cl' (show j + 5 < 2 ^ 31 by omega)]
  refine ⟨i1, i2, i3, i4, i5, xWp_mono (hc w hC) ?_⟩
  rintro a w1 ⟨rfl, hC1, f1⟩
  have e4 : w1 4 = w 4 := f1 4 (by omega)
  have e0 : w1 0 = w 0 := f1 0 (by omega)
  refine G_Lw_law_602 ?_
  rw [e4, e0]
  rw [h4, z_cl' (show L < 2 ^ 31 by omega), q1, q2, q3, q4, q5, z_cl' (show j + 1 < 2 ^ 31 by omega), z_cl' (show j + 2 < 2 ^ 31 by omega), z_cl' (show j + 3 < 2 ^ 31 by omega), z_cl' (show j + 4 < 2 ^ 31 by omega), z_cl' (show j + 5 < 2 ^ 31 by omega)]
  refine ⟨i1, i2, i3, i4, i5, xWp_mono (hm w1 (sM_fC hM f1)) ?_⟩
  rintro a w2 ⟨rfl, hM2, f2⟩
  exact G_Lw_law_631 ⟨fun _ => K s' w2 (sC_fM hC1 f2) hM2 ((f2 4 (by decide) (by decide)).trans e4), fun c => absurd rfl c⟩
theorem W_reading (K : lK j w Q) (hC : sC s w) (hM : sM s w) (h4 : w 4 0 = nI L) (hL : L ≤ 3072) (hj : j + 6 ≤ L) : xWp 7 m_Lw_law 636 [xA 51 0, xA 6 1, xA 7 2, xI (nI j)] [] w Q := by
  obtain ⟨r, s', hc, hm⟩ := O_reading s (w 0 (j + 1)) (w 0 (j + 2))
  have q1 : nI j + 1 = nI (j + 1) := nI_add j 1
  have i1 : vp_in (nI (j + 1)) L := vp_in_nI (by omega) (by omega)
  have q2 : nI j + 2 = nI (j + 2) := nI_add j 2
  have i2 : vp_in (nI (j + 2)) L := vp_in_nI (by omega) (by omega)
  refine G_Lw_law_636 ?_
  rw [h4, z_cl' (show L < 2 ^ 31 by omega), q1, q2, z_cl' (show j + 1 < 2 ^ 31 by omega), z_cl' (show j + 2 < 2 ^ 31 by omega)]
  refine ⟨i1, i2, xWp_mono (hc w hC) ?_⟩
  rintro a w1 ⟨rfl, hC1, f1⟩
  have e4 : w1 4 = w 4 := f1 4 (by omega)
  have e0 : w1 0 = w 0 := f1 0 (by omega)
  refine G_Lw_law_650 ?_
  rw [e4, e0]
  rw [h4, z_cl' (show L < 2 ^ 31 by omega), q1, q2, z_cl' (show j + 1 < 2 ^ 31 by omega), z_cl' (show j + 2 < 2 ^ 31 by omega)]
  refine ⟨i1, i2, xWp_mono (hm w1 (sM_fC hM f1)) ?_⟩
  rintro a w2 ⟨rfl, hM2, f2⟩
  exact G_Lw_law_664 ⟨fun _ => K s' w2 (sC_fM hC1 f2) hM2 ((f2 4 (by decide) (by decide)).trans e4), fun c => absurd rfl c⟩
theorem W_back (K : lK j w Q) (hC : sC s w) (hM : sM s w) (h4 : w 4 0 = nI L) (hL : L ≤ 3072) (hj : j + 6 ≤ L) : xWp 7 m_Lw_law 669 [xA 51 0, xA 6 1, xA 7 2, xI (nI j)] [] w Q := by
  obtain ⟨r, s', hc, hm⟩ := O_back s (w 0 (j + 1))
  have q1 : nI j + 1 = nI (j + 1) := nI_add j 1
  have i1 : vp_in (nI (j + 1)) L := vp_in_nI (by omega) (by omega)
  refine G_Lw_law_669 ?_
  rw [h4, z_cl' (show L < 2 ^ 31 by omega), q1, z_cl' (show j + 1 < 2 ^ 31 by omega)]
  refine ⟨i1, xWp_mono (hc w hC) ?_⟩
  rintro a w1 ⟨rfl, hC1, f1⟩
  have e4 : w1 4 = w 4 := f1 4 (by omega)
  have e0 : w1 0 = w 0 := f1 0 (by omega)
  refine G_Lw_law_678 ?_
  rw [e4, e0]
  rw [h4, z_cl' (show L < 2 ^ 31 by omega), q1, z_cl' (show j + 1 < 2 ^ 31 by omega)]
  refine ⟨i1, xWp_mono (hm w1 (sM_fC hM f1)) ?_⟩
  rintro a w2 ⟨rfl, hM2, f2⟩
  exact G_Lw_law_687 ⟨fun _ => K s' w2 (sC_fM hC1 f2) hM2 ((f2 4 (by decide) (by decide)).trans e4), fun c => absurd rfl c⟩
theorem W_kinds (K : lK j w Q) (hC : sC s w) (hM : sM s w) (h4 : w 4 0 = nI L) (hL : L ≤ 3072) (hj : j + 6 ≤ L) : xWp 7 m_Lw_law 692 [xA 51 0, xA 6 1, xA 7 2, xI (nI j)] [] w Q := by
  obtain ⟨r, s', hc, hm⟩ := O_kinds s (w 0 (j + 1))
  have q1 : nI j + 1 = nI (j + 1) := nI_add j 1
  have i1 : vp_in (nI (j + 1)) L := vp_in_nI (by omega) (by omega)
  refine G_Lw_law_692 ?_
  rw [h4, z_cl' (show L < 2 ^ 31 by omega), q1, z_cl' (show j + 1 < 2 ^ 31 by omega)]
  refine ⟨i1, xWp_mono (hc w hC) ?_⟩
  rintro a w1 ⟨rfl, hC1, f1⟩
  have e4 : w1 4 = w 4 := f1 4 (by omega)
  have e0 : w1 0 = w 0 := f1 0 (by omega)
  refine G_Lw_law_701 ?_
  rw [e4, e0]
  rw [h4, z_cl' (show L < 2 ^ 31 by omega), q1, z_cl' (show j + 1 < 2 ^ 31 by omega)]
  refine ⟨i1, xWp_mono (hm w1 (sM_fC hM f1)) ?_⟩
  rintro a w2 ⟨rfl, hM2, f2⟩
  exact G_Lw_law_710 ⟨fun _ => K s' w2 (sC_fM hC1 f2) hM2 ((f2 4 (by decide) (by decide)).trans e4), fun c => absurd rfl c⟩
theorem W_firsts (K : lK j w Q) (hC : sC s w) (hM : sM s w) (h4 : w 4 0 = nI L) (hL : L ≤ 3072) (hj : j + 6 ≤ L) : xWp 7 m_Lw_law 715 [xA 51 0, xA 6 1, xA 7 2, xI (nI j)] [] w Q := by
  obtain ⟨r, s', hc, hm⟩ := O_firsts s (w 0 (j + 1))
  have q1 : nI j + 1 = nI (j + 1) := nI_add j 1
  have i1 : vp_in (nI (j + 1)) L := vp_in_nI (by omega) (by omega)
  refine G_Lw_law_715 ?_
  rw [h4, z_cl' (show L < 2 ^ 31 by omega), q1, z_cl' (show j + 1 < 2 ^ 31 by omega)]
  refine ⟨i1, xWp_mono (hc w hC) ?_⟩
  rintro a w1 ⟨rfl, hC1, f1⟩
  have e4 : w1 4 = w 4 := f1 4 (by omega)
  have e0 : w1 0 = w 0 := f1 0 (by omega)
  refine G_Lw_law_724 ?_
  rw [e4, e0]
  rw [h4, z_cl' (show L < 2 ^ 31 by omega), q1, z_cl' (show j + 1 < 2 ^ 31 by omega)]
  refine ⟨i1, xWp_mono (hm w1 (sM_fC hM f1)) ?_⟩
  rintro a w2 ⟨rfl, hM2, f2⟩
  exact G_Lw_law_733 ⟨fun _ => K s' w2 (sC_fM hC1 f2) hM2 ((f2 4 (by decide) (by decide)).trans e4), fun c => absurd rfl c⟩
theorem W_odds (K : lK j w Q) (hC : sC s w) (hM : sM s w) (h4 : w 4 0 = nI L) (hL : L ≤ 3072) (hj : j + 6 ≤ L) : xWp 7 m_Lw_law 738 [xA 51 0, xA 6 1, xA 7 2, xI (nI j)] [] w Q := by
  obtain ⟨r, s', hc, hm⟩ := O_odds s (w 0 (j + 1))
  have q1 : nI j + 1 = nI (j + 1) := nI_add j 1
  have i1 : vp_in (nI (j + 1)) L := vp_in_nI (by omega) (by omega)
  refine G_Lw_law_738 ?_
  rw [h4, z_cl' (show L < 2 ^ 31 by omega), q1, z_cl' (show j + 1 < 2 ^ 31 by omega)]
  refine ⟨i1, xWp_mono (hc w hC) ?_⟩
  rintro a w1 ⟨rfl, hC1, f1⟩
  have e4 : w1 4 = w 4 := f1 4 (by omega)
  have e0 : w1 0 = w 0 := f1 0 (by omega)
  refine G_Lw_law_747 ?_
  rw [e4, e0]
  rw [h4, z_cl' (show L < 2 ^ 31 by omega), q1, z_cl' (show j + 1 < 2 ^ 31 by omega)]
  refine ⟨i1, xWp_mono (hm w1 (sM_fC hM f1)) ?_⟩
  rintro a w2 ⟨rfl, hM2, f2⟩
  exact G_Lw_law_756 ⟨fun _ => K s' w2 (sC_fM hC1 f2) hM2 ((f2 4 (by decide) (by decide)).trans e4), fun c => absurd (lg_self _) c⟩
theorem W_sheet (K : lK j w Q) (hC : sC s w) (hM : sM s w) (h4 : w 4 0 = nI L) (hL : L ≤ 3072) (hj : j + 6 ≤ L) : xWp 7 m_Lw_law 762 [xA 51 0, xA 6 1, xA 7 2, xI (nI j)] [] w Q := by
  obtain ⟨r, s', hc, hm⟩ := O_sheet s (w 0 (j + 1)) (w 0 (j + 2)) (w 0 (j + 3))
  have q1 : nI j + 1 = nI (j + 1) := nI_add j 1
  have i1 : vp_in (nI (j + 1)) L := vp_in_nI (by omega) (by omega)
  have q2 : nI j + 2 = nI (j + 2) := nI_add j 2
  have i2 : vp_in (nI (j + 2)) L := vp_in_nI (by omega) (by omega)
  have q3 : nI j + 3 = nI (j + 3) := nI_add j 3
  have i3 : vp_in (nI (j + 3)) L := vp_in_nI (by omega) (by omega)
  refine G_Lw_law_762 ?_
  rw [h4, z_cl' (show L < 2 ^ 31 by omega), q1, q2, q3, z_cl' (show j + 1 < 2 ^ 31 by omega), z_cl' (show j + 2 < 2 ^ 31 by omega), z_cl' (show j + 3 < 2 ^ 31 by omega)]
  refine ⟨i1, i2, i3, xWp_mono (hc w hC) ?_⟩
  rintro a w1 ⟨rfl, hC1, f1⟩
  have e4 : w1 4 = w 4 := f1 4 (by omega)
  have e0 : w1 0 = w 0 := f1 0 (by omega)
  refine G_Lw_law_781 ?_
  rw [e4, e0]
  rw [h4, z_cl' (show L < 2 ^ 31 by omega), q1, q2, q3, z_cl' (show j + 1 < 2 ^ 31 by omega), z_cl' (show j + 2 < 2 ^ 31 by omega), z_cl' (show j + 3 < 2 ^ 31 by omega)]
  refine ⟨i1, i2, i3, xWp_mono (hm w1 (sM_fC hM f1)) ?_⟩
  rintro a w2 ⟨rfl, hM2, f2⟩
  exact G_Lw_law_800 ⟨fun _ => K s' w2 (sC_fM hC1 f2) hM2 ((f2 4 (by decide) (by decide)).trans e4), fun c => absurd rfl c⟩
theorem W_lose (K : lK j w Q) (hC : sC s w) (hM : sM s w) (h4 : w 4 0 = nI L) (hL : L ≤ 3072) (hj : j + 6 ≤ L) : xWp 7 m_Lw_law 805 [xA 51 0, xA 6 1, xA 7 2, xI (nI j)] [] w Q := by
  obtain ⟨r, s', hc, hm⟩ := O_lose s (w 0 (j + 1))
  have q1 : nI j + 1 = nI (j + 1) := nI_add j 1
  have i1 : vp_in (nI (j + 1)) L := vp_in_nI (by omega) (by omega)
  refine G_Lw_law_805 ?_
  rw [h4, z_cl' (show L < 2 ^ 31 by omega), q1, z_cl' (show j + 1 < 2 ^ 31 by omega)]
  refine ⟨i1, xWp_mono (hc w hC) ?_⟩
  rintro a w1 ⟨rfl, hC1, f1⟩
  have e4 : w1 4 = w 4 := f1 4 (by omega)
  have e0 : w1 0 = w 0 := f1 0 (by omega)
  refine G_Lw_law_814 ?_
  rw [e4, e0]
  rw [h4, z_cl' (show L < 2 ^ 31 by omega), q1, z_cl' (show j + 1 < 2 ^ 31 by omega)]
  refine ⟨i1, xWp_mono (hm w1 (sM_fC hM f1)) ?_⟩
  rintro a w2 ⟨rfl, hM2, f2⟩
  exact G_Lw_law_823 ⟨fun _ => K s' w2 (sC_fM hC1 f2) hM2 ((f2 4 (by decide) (by decide)).trans e4), fun c => absurd rfl c⟩
theorem W_put (K : lK j w Q) (hC : sC s w) (hM : sM s w) (h4 : w 4 0 = nI L) (hL : L ≤ 3072) (hj : j + 6 ≤ L) : xWp 7 m_Lw_law 828 [xA 51 0, xA 6 1, xA 7 2, xI (nI j)] [] w Q := by
  obtain ⟨r, s', hc, hm⟩ := O_put s (w 0 (j + 1)) (w 0 (j + 2)) (w 0 (j + 3))
  have q1 : nI j + 1 = nI (j + 1) := nI_add j 1
  have i1 : vp_in (nI (j + 1)) L := vp_in_nI (by omega) (by omega)
  have q2 : nI j + 2 = nI (j + 2) := nI_add j 2
  have i2 : vp_in (nI (j + 2)) L := vp_in_nI (by omega) (by omega)
  have q3 : nI j + 3 = nI (j + 3) := nI_add j 3
  have i3 : vp_in (nI (j + 3)) L := vp_in_nI (by omega) (by omega)
  refine G_Lw_law_828 ?_
  rw [h4, z_cl' (show L < 2 ^ 31 by omega), q1, q2, q3, z_cl' (show j + 1 < 2 ^ 31 by omega), z_cl' (show j + 2 < 2 ^ 31 by omega), z_cl' (show j + 3 < 2 ^ 31 by omega)]
  refine ⟨i1, i2, i3, xWp_mono (hc w hC) ?_⟩
  rintro a w1 ⟨rfl, hC1, f1⟩
  have e4 : w1 4 = w 4 := f1 4 (by omega)
  have e0 : w1 0 = w 0 := f1 0 (by omega)
  refine G_Lw_law_847 ?_
  rw [e4, e0]
  rw [h4, z_cl' (show L < 2 ^ 31 by omega), q1, q2, q3, z_cl' (show j + 1 < 2 ^ 31 by omega), z_cl' (show j + 2 < 2 ^ 31 by omega), z_cl' (show j + 3 < 2 ^ 31 by omega)]
  refine ⟨i1, i2, i3, xWp_mono (hm w1 (sM_fC hM f1)) ?_⟩
  rintro a w2 ⟨rfl, hM2, f2⟩
  exact G_Lw_law_866 ⟨fun _ => K s' w2 (sC_fM hC1 f2) hM2 ((f2 4 (by decide) (by decide)).trans e4), fun c => absurd rfl c⟩
theorem W_cell (K : lK j w Q) (hC : sC s w) (hM : sM s w) (h4 : w 4 0 = nI L) (hL : L ≤ 3072) (hj : j + 6 ≤ L) : xWp 7 m_Lw_law 871 [xA 51 0, xA 6 1, xA 7 2, xI (nI j)] [] w Q := by
  obtain ⟨r, s', hc, hm⟩ := O_cell s (w 0 (j + 1)) (w 0 (j + 2)) (w 0 (j + 3))
  have q1 : nI j + 1 = nI (j + 1) := nI_add j 1
  have i1 : vp_in (nI (j + 1)) L := vp_in_nI (by omega) (by omega)
  have q2 : nI j + 2 = nI (j + 2) := nI_add j 2
  have i2 : vp_in (nI (j + 2)) L := vp_in_nI (by omega) (by omega)
  have q3 : nI j + 3 = nI (j + 3) := nI_add j 3
  have i3 : vp_in (nI (j + 3)) L := vp_in_nI (by omega) (by omega)
  refine G_Lw_law_871 ?_
  rw [h4, z_cl' (show L < 2 ^ 31 by omega), q1, q2, q3, z_cl' (show j + 1 < 2 ^ 31 by omega), z_cl' (show j + 2 < 2 ^ 31 by omega), z_cl' (show j + 3 < 2 ^ 31 by omega)]
  refine ⟨i1, i2, i3, xWp_mono (hc w hC) ?_⟩
  rintro a w1 ⟨rfl, hC1, f1⟩
  have e4 : w1 4 = w 4 := f1 4 (by omega)
  have e0 : w1 0 = w 0 := f1 0 (by omega)
  refine G_Lw_law_890 ?_
  rw [e4, e0]
  rw [h4, z_cl' (show L < 2 ^ 31 by omega), q1, q2, q3, z_cl' (show j + 1 < 2 ^ 31 by omega), z_cl' (show j + 2 < 2 ^ 31 by omega), z_cl' (show j + 3 < 2 ^ 31 by omega)]
  refine ⟨i1, i2, i3, xWp_mono (hm w1 (sM_fC hM f1)) ?_⟩
  rintro a w2 ⟨rfl, hM2, f2⟩
  exact G_Lw_law_909 ⟨fun _ => K s' w2 (sC_fM hC1 f2) hM2 ((f2 4 (by decide) (by decide)).trans e4), fun c => absurd (lg_self _) c⟩
theorem W_copy (K : lK j w Q) (hC : sC s w) (hM : sM s w) (h4 : w 4 0 = nI L) (hL : L ≤ 3072) (hj : j + 6 ≤ L) : xWp 7 m_Lw_law 915 [xA 51 0, xA 6 1, xA 7 2, xI (nI j)] [] w Q := by
  obtain ⟨r, s', hc, hm⟩ := O_copy s (w 0 (j + 1)) (w 0 (j + 2)) (w 0 (j + 3)) (w 0 (j + 4)) (w 0 (j + 5))
  have q1 : nI j + 1 = nI (j + 1) := nI_add j 1
  have i1 : vp_in (nI (j + 1)) L := vp_in_nI (by omega) (by omega)
  have q2 : nI j + 2 = nI (j + 2) := nI_add j 2
  have i2 : vp_in (nI (j + 2)) L := vp_in_nI (by omega) (by omega)
  have q3 : nI j + 3 = nI (j + 3) := nI_add j 3
  have i3 : vp_in (nI (j + 3)) L := vp_in_nI (by omega) (by omega)
  have q4 : nI j + 4 = nI (j + 4) := nI_add j 4
  have i4 : vp_in (nI (j + 4)) L := vp_in_nI (by omega) (by omega)
  have q5 : nI j + 5 = nI (j + 5) := nI_add j 5
  have i5 : vp_in (nI (j + 5)) L := vp_in_nI (by omega) (by omega)
  refine G_Lw_law_915 ?_
  rw [h4, z_cl' (show L < 2 ^ 31 by omega), q1, q2, q3, q4, q5, z_cl' (show j + 1 < 2 ^ 31 by omega), z_cl' (show j + 2 < 2 ^ 31 by omega), z_cl' (show j + 3 < 2 ^ 31 by omega), z_cl' (show j + 4 < 2 ^ 31 by omega), z_cl' (show j + 5 < 2 ^ 31 by omega)]
  refine ⟨i1, i2, i3, i4, i5, xWp_mono (hc w hC) ?_⟩
  rintro a w1 ⟨rfl, hC1, f1⟩
  have e4 : w1 4 = w 4 := f1 4 (by omega)
  have e0 : w1 0 = w 0 := f1 0 (by omega)
  refine G_Lw_law_944 ?_
  rw [e4, e0]
  rw [h4, z_cl' (show L < 2 ^ 31 by omega), q1, q2, q3, q4, q5, z_cl' (show j + 1 < 2 ^ 31 by omega), z_cl' (show j + 2 < 2 ^ 31 by omega), z_cl' (show j + 3 < 2 ^ 31 by omega), z_cl' (show j + 4 < 2 ^ 31 by omega), z_cl' (show j + 5 < 2 ^ 31 by omega)]
  refine ⟨i1, i2, i3, i4, i5, xWp_mono (hm w1 (sM_fC hM f1)) ?_⟩
  rintro a w2 ⟨rfl, hM2, f2⟩
  exact G_Lw_law_973 ⟨fun _ => K s' w2 (sC_fM hC1 f2) hM2 ((f2 4 (by decide) (by decide)).trans e4), fun c => absurd rfl c⟩
theorem W_tell (K : lK j w Q) (hC : sC s w) (hM : sM s w) (h4 : w 4 0 = nI L) (hL : L ≤ 3072) (hj : j + 6 ≤ L) : xWp 7 m_Lw_law 978 [xA 51 0, xA 6 1, xA 7 2, xI (nI j)] [] w Q := by
  obtain ⟨r, s', hc, hm⟩ := O_tell s (w 0 (j + 1))
  have q1 : nI j + 1 = nI (j + 1) := nI_add j 1
  have i1 : vp_in (nI (j + 1)) L := vp_in_nI (by omega) (by omega)
  refine G_Lw_law_978 ?_
  rw [h4, z_cl' (show L < 2 ^ 31 by omega), q1, z_cl' (show j + 1 < 2 ^ 31 by omega)]
  refine ⟨i1, xWp_mono (hc w hC) ?_⟩
  rintro a w1 ⟨rfl, hC1, f1⟩
  have e4 : w1 4 = w 4 := f1 4 (by omega)
  have e0 : w1 0 = w 0 := f1 0 (by omega)
  refine G_Lw_law_987 ?_
  rw [e4, e0]
  rw [h4, z_cl' (show L < 2 ^ 31 by omega), q1, z_cl' (show j + 1 < 2 ^ 31 by omega)]
  refine ⟨i1, xWp_mono (hm w1 (sM_fC hM f1)) ?_⟩
  rintro a w2 ⟨rfl, hM2, f2⟩
  exact G_Lw_law_996 ⟨fun _ => K s' w2 (sC_fM hC1 f2) hM2 ((f2 4 (by decide) (by decide)).trans e4), fun c => absurd rfl c⟩
theorem W_label (K : lK j w Q) (hC : sC s w) (hM : sM s w) (h4 : w 4 0 = nI L) (hL : L ≤ 3072) (hj : j + 6 ≤ L) : xWp 7 m_Lw_law 1001 [xA 51 0, xA 6 1, xA 7 2, xI (nI j)] [] w Q := by
  obtain ⟨r, s', hc, hm⟩ := O_label s (w 0 (j + 1))
  have q1 : nI j + 1 = nI (j + 1) := nI_add j 1
  have i1 : vp_in (nI (j + 1)) L := vp_in_nI (by omega) (by omega)
  refine G_Lw_law_1001 ?_
  rw [h4, z_cl' (show L < 2 ^ 31 by omega), q1, z_cl' (show j + 1 < 2 ^ 31 by omega)]
  refine ⟨i1, xWp_mono (hc w hC) ?_⟩
  rintro a w1 ⟨rfl, hC1, f1⟩
  have e4 : w1 4 = w 4 := f1 4 (by omega)
  have e0 : w1 0 = w 0 := f1 0 (by omega)
  refine G_Lw_law_1010 ?_
  rw [e4, e0]
  rw [h4, z_cl' (show L < 2 ^ 31 by omega), q1, z_cl' (show j + 1 < 2 ^ 31 by omega)]
  refine ⟨i1, xWp_mono (hm w1 (sM_fC hM f1)) ?_⟩
  rintro a w2 ⟨rfl, hM2, f2⟩
  exact G_Lw_law_1019 ⟨fun _ => K s' w2 (sC_fM hC1 f2) hM2 ((f2 4 (by decide) (by decide)).trans e4), fun c => absurd rfl c⟩
theorem W_as (K : lK j w Q) (hC : sC s w) (hM : sM s w) (h4 : w 4 0 = nI L) (hL : L ≤ 3072) (hj : j + 6 ≤ L) : xWp 7 m_Lw_law 1024 [xA 51 0, xA 6 1, xA 7 2, xI (nI j)] [] w Q := by
  obtain ⟨r, s', hc, hm⟩ := O_as s (w 0 (j + 1)) (w 0 (j + 2))
  have q1 : nI j + 1 = nI (j + 1) := nI_add j 1
  have i1 : vp_in (nI (j + 1)) L := vp_in_nI (by omega) (by omega)
  have q2 : nI j + 2 = nI (j + 2) := nI_add j 2
  have i2 : vp_in (nI (j + 2)) L := vp_in_nI (by omega) (by omega)
  refine G_Lw_law_1024 ?_
  rw [h4, z_cl' (show L < 2 ^ 31 by omega), q1, q2, z_cl' (show j + 1 < 2 ^ 31 by omega), z_cl' (show j + 2 < 2 ^ 31 by omega)]
  refine ⟨i1, i2, xWp_mono (hc w hC) ?_⟩
  rintro a w1 ⟨rfl, hC1, f1⟩
  have e4 : w1 4 = w 4 := f1 4 (by omega)
  have e0 : w1 0 = w 0 := f1 0 (by omega)
  refine G_Lw_law_1038 ?_
  rw [e4, e0]
  rw [h4, z_cl' (show L < 2 ^ 31 by omega), q1, q2, z_cl' (show j + 1 < 2 ^ 31 by omega), z_cl' (show j + 2 < 2 ^ 31 by omega)]
  refine ⟨i1, i2, xWp_mono (hm w1 (sM_fC hM f1)) ?_⟩
  rintro a w2 ⟨rfl, hM2, f2⟩
  exact G_Lw_law_1052 ⟨fun _ => K s' w2 (sC_fM hC1 f2) hM2 ((f2 4 (by decide) (by decide)).trans e4), fun c => absurd rfl c⟩
theorem W_trace (K : lK j w Q) (hC : sC s w) (hM : sM s w) (h4 : w 4 0 = nI L) (hL : L ≤ 3072) (hj : j + 6 ≤ L) : xWp 7 m_Lw_law 1057 [xA 51 0, xA 6 1, xA 7 2, xI (nI j)] [] w Q := by
  obtain ⟨r, s', hc, hm⟩ := O_trace s 
  refine G_Lw_law_1057 ?_
  refine xWp_mono (hc w hC) ?_
  rintro a w1 ⟨rfl, hC1, f1⟩
  have e4 : w1 4 = w 4 := f1 4 (by omega)
  have e0 : w1 0 = w 0 := f1 0 (by omega)
  refine G_Lw_law_1061 ?_
  refine xWp_mono (hm w1 (sM_fC hM f1)) ?_
  rintro a w2 ⟨rfl, hM2, f2⟩
  exact G_Lw_law_1065 ⟨fun _ => K s' w2 (sC_fM hC1 f2) hM2 ((f2 4 (by decide) (by decide)).trans e4), fun c => absurd rfl c⟩
theorem W_fault (K : lK j w Q) (hC : sC s w) (hM : sM s w) (h4 : w 4 0 = nI L) (hL : L ≤ 3072) (hj : j + 6 ≤ L) : xWp 7 m_Lw_law 1070 [xA 51 0, xA 6 1, xA 7 2, xI (nI j)] [] w Q := by
  obtain ⟨r, s', hc, hm⟩ := O_fault s 
  refine G_Lw_law_1070 ?_
  refine xWp_mono (hc w hC) ?_
  rintro a w1 ⟨rfl, hC1, f1⟩
  have e4 : w1 4 = w 4 := f1 4 (by omega)
  have e0 : w1 0 = w 0 := f1 0 (by omega)
  refine G_Lw_law_1074 ?_
  refine xWp_mono (hm w1 (sM_fC hM f1)) ?_
  rintro a w2 ⟨rfl, hM2, f2⟩
  exact G_Lw_law_1078 ⟨fun _ => K s' w2 (sC_fM hC1 f2) hM2 ((f2 4 (by decide) (by decide)).trans e4), fun c => absurd rfl c⟩
theorem W_many (K : lK j w Q) (hC : sC s w) (hM : sM s w) (h4 : w 4 0 = nI L) (hL : L ≤ 3072) (hj : j + 6 ≤ L) : xWp 7 m_Lw_law 1083 [xA 51 0, xA 6 1, xA 7 2, xI (nI j)] [] w Q := by
  obtain ⟨r, s', hc, hm⟩ := O_many s (w 0 (j + 1))
  have q1 : nI j + 1 = nI (j + 1) := nI_add j 1
  have i1 : vp_in (nI (j + 1)) L := vp_in_nI (by omega) (by omega)
  refine G_Lw_law_1083 ?_
  rw [h4, z_cl' (show L < 2 ^ 31 by omega), q1, z_cl' (show j + 1 < 2 ^ 31 by omega)]
  refine ⟨i1, xWp_mono (hc w hC) ?_⟩
  rintro a w1 ⟨rfl, hC1, f1⟩
  have e4 : w1 4 = w 4 := f1 4 (by omega)
  have e0 : w1 0 = w 0 := f1 0 (by omega)
  refine G_Lw_law_1092 ?_
  rw [e4, e0]
  rw [h4, z_cl' (show L < 2 ^ 31 by omega), q1, z_cl' (show j + 1 < 2 ^ 31 by omega)]
  refine ⟨i1, xWp_mono (hm w1 (sM_fC hM f1)) ?_⟩
  rintro a w2 ⟨rfl, hM2, f2⟩
  exact G_Lw_law_1101 ⟨fun _ => K s' w2 (sC_fM hC1 f2) hM2 ((f2 4 (by decide) (by decide)).trans e4), fun c => absurd rfl c⟩
end LW
theorem L_law {L : Nat} (hL : L ≤ 3072) : ∀ (f j : Nat) (w : xWd) (s : xS), L < j + f → j ≤ L → sC s w → sM s w → w 4 0 = nI L → xWp 7 m_Lw_law 18 [xA 51 0, xA 6 1, xA 7 2, xI (nI j)] [] w (fun a _ => a = xI 1) := by
  intro f
  induction f with
  | zero => intro j w s hf hj; omega
  | succ f ih =>
    intro j w s hf hj hC hM h4
    have e6 : (nI L - 6).toInt = (L : Int) - 6 := by
      rw [show (6 : Int32) = nI 6 from rfl, pk_sub_toInt (by omega) (by omega)]; rfl
    refine G_Lw_law_18 ?_
    rw [h4, z_cl' (show L < 2 ^ 31 by omega)]
    refine ⟨fun _ => rfl, fun c => ?_⟩
    have hj6 : j + 6 ≤ L := by
      rw [fa_lt, e6, nI_toInt (by omega)] at c
      omega
    have K : lK j w (fun a _ => a = xI 1) := fun s' w' hC' hM' e4 => G_Lw_law_1106 (by
      rw [show nI j + 6 = nI (j + 6) from nI_add j 6]
      exact ih (j + 6) w' s' (by omega) hj6 hC' hM' (by rw [e4]; exact h4))
    refine ⟨vp_in_nI (by omega) (by omega), ?_⟩
    exact ⟨fun _ => W_lines K hC hM h4 hL hj6, fun _ => ⟨fun _ => W_ofLine K hC hM h4 hL hj6, fun _ => ⟨fun _ => W_used K hC hM h4 hL hj6, fun _ => ⟨fun _ => W_reuse K hC hM h4 hL hj6, fun _ => ⟨fun _ => W_grow K hC hM h4 hL hj6, fun _ => ⟨fun _ => W_cut K hC hM h4 hL hj6, fun _ => ⟨fun _ => W_day K hC hM h4 hL hj6, fun _ => ⟨fun _ => W_cross K hC hM h4 hL hj6, fun _ => ⟨fun _ => W_most K hC hM h4 hL hj6, fun _ => ⟨fun _ => W_next K hC hM h4 hL hj6, fun _ => ⟨fun _ => W_hold K hC hM h4 hL hj6, fun _ => ⟨fun _ => W_copies K hC hM h4 hL hj6, fun _ => ⟨fun _ => W_reading K hC hM h4 hL hj6, fun _ => ⟨fun _ => W_back K hC hM h4 hL hj6, fun _ => ⟨fun _ => W_kinds K hC hM h4 hL hj6, fun _ => ⟨fun _ => W_firsts K hC hM h4 hL hj6, fun _ => ⟨fun _ => W_odds K hC hM h4 hL hj6, fun _ => ⟨fun _ => W_sheet K hC hM h4 hL hj6, fun _ => ⟨fun _ => W_lose K hC hM h4 hL hj6, fun _ => ⟨fun _ => W_put K hC hM h4 hL hj6, fun _ => ⟨fun _ => W_cell K hC hM h4 hL hj6, fun _ => ⟨fun _ => W_copy K hC hM h4 hL hj6, fun _ => ⟨fun _ => W_tell K hC hM h4 hL hj6, fun _ => ⟨fun _ => W_label K hC hM h4 hL hj6, fun _ => ⟨fun _ => W_as K hC hM h4 hL hj6, fun _ => ⟨fun _ => W_trace K hC hM h4 hL hj6, fun _ => ⟨fun _ => W_fault K hC hM h4 hL hj6, fun _ => ⟨fun _ => W_many K hC hM h4 hL hj6, fun _ => K s w hC hM rfl⟩⟩⟩⟩⟩⟩⟩⟩⟩⟩⟩⟩⟩⟩⟩⟩⟩⟩⟩⟩⟩⟩⟩⟩⟩⟩⟩⟩
/-! the start -/
def x_s0 : xS := ((fun _ => 0, fun _ => 0, fun _ _ => 0), tE, (0, fun _ => 0, fun _ => 0), 0, 0)
theorem x_s0_ok : sOk x_s0 := ⟨fun _ _ => ⟨Nat.zero_le _, Nat.zero_le _⟩, tE_W, Nat.zero_le _, fun q hq => absurd hq (Nat.not_lt_zero _)⟩
theorem x_w0_z {xs : Nat → Int32} {L a : Nat} (h0 : a ≠ 0) (h4 : a ≠ 4) (h7 : a ≠ 67) : x_w0 xs L a = fun _ => 0 := by
  unfold x_w0
  rw [if_neg h0, if_neg h4, if_neg h7]
theorem x_s0_C (xs : Nat → Int32) (L : Nat) : sC x_s0 (x_w0 xs L) := by
  refine ⟨x_s0_ok, fun k hk => ⟨fun _ => ⟨?_, ?_⟩, fun q => absurd q (Nat.not_lt_zero _), fun j hj => ?_⟩, ⟨?_, fun l hl => absurd hl (Nat.not_lt_zero _)⟩, ⟨?_, fun q hq => absurd hq (Nat.not_lt_zero _)⟩, ?_, ?_⟩
  · rw [x_w0_z (by omega) (by omega) (by omega)]
  · rw [x_w0_z (by omega) (by omega) (by omega)]
  · rw [x_w0_z (by omega) (by omega) (by omega)]; rfl
  · rw [x_w0_z (by omega) (by omega) (by omega)]; rfl
  · rw [x_w0_z (by omega) (by omega) (by omega)]; rfl
  · rw [x_w0_z (by omega) (by omega) (by omega)]; rfl
  · rw [x_w0_z (by omega) (by omega) (by omega)]; rfl
theorem x_s0_M (xs : Nat → Int32) (L : Nat) : sM x_s0 (x_w0 xs L) := by
  refine ⟨x_s0_ok, fun k hk => ⟨fun _ => ?_, fun q => absurd q (Nat.not_lt_zero _), fun j hj => ?_⟩, ⟨?_, fun l hl => absurd hl (Nat.not_lt_zero _)⟩, ⟨?_, fun q hq => absurd hq (Nat.not_lt_zero _)⟩, ?_, ?_⟩
  · rcases (show k = 0 ∨ k = 1 ∨ k = 2 ∨ k = 3 by omega) with rfl | rfl | rfl | rfl <;> rfl
  · rw [x_w0_z (by omega) (by omega) (by omega)]; rfl
  · rw [x_w0_z (by omega) (by omega) (by omega)]; rfl
  · rw [x_w0_z (by omega) (by omega) (by omega)]; rfl
  · rw [x_w0_z (by omega) (by omega) (by omega)]; rfl
  · rw [x_w0_z (by omega) (by omega) (by omega)]; rfl
theorem law_pure (xs : Nat → Int32) (L : Nat) (hL : L ≤ 3072) : xWp 7 m_Lw_law 18 [xA 51 0, xA 6 1, xA 7 2, xI 0] [] (x_w0 xs L) (fun a _ => a = xI 1) := L_law hL (L + 1) 0 (x_w0 xs L) x_s0 (by omega) (Nat.zero_le _) (x_s0_C xs L) (x_s0_M xs L) rfl

