/-! DAY: acts, one behind another, on a tree that might be -/
noncomputable def dGo (f : Nat → Int32) : Nat → Nat → xT → Int32 × xT
  | 0, _, T => (-9, T)
  | m + 1, k, T => @ite (Int32 × xT) (pU T (f (3 * k)) (f (3 * k + 1)) (f (3 * k + 2))) (Classical.propDecidable _) (dGo f m (k + 1) (tReu T (f (3 * k)).toNatClampNeg (f (3 * k + 1)).toNatClampNeg (f (3 * k + 2)).toNatClampNeg)) (nI k, T)
theorem dGo_y {f : Nat → Int32} {m k : Nat} {T : xT} (h : pU T (f (3 * k)) (f (3 * k + 1)) (f (3 * k + 2))) : dGo f (m + 1) k T = dGo f m (k + 1) (tReu T (f (3 * k)).toNatClampNeg (f (3 * k + 1)).toNatClampNeg (f (3 * k + 2)).toNatClampNeg) := if_pos h
theorem dGo_n {f : Nat → Int32} {m k : Nat} {T : xT} (h : ¬ pU T (f (3 * k)) (f (3 * k + 1)) (f (3 * k + 2))) : dGo f (m + 1) k T = (nI k, T) := if_neg h
theorem z_i3 {i k : Nat} : nI i + 3 * nI k = nI (i + 3 * k) := by
  rw [show (3 : Int32) * nI k = nI (3 * k) from pk_mul 3 k, nI_add]
theorem z_p2 {a : Nat} : nI a + 2 = nI (a + 2) := nI_add a 2
theorem G_Vp_firstWrong_0 {d : Nat} {a1 : Nat} {x2 : Int32} {x3 : Int32} {w : xWd} {Q : xMV → xWd → Prop} (h : xWp (d + 4) m_Tr_becomeLike 0 [xA 5 35, xA 5 34] [] w (fun a w' => xWp (d + 5) m_Vp_firstWrong 11 [xA 6 1, xA 3 a1, xI x2, xI x3, xU, xU, xU, xU, xU] (x_pu a []) w' Q)) : xWp (d + 5) m_Vp_firstWrong 0 [xA 6 1, xA 3 a1, xI x2, xI x3, xU, xU, xU, xU, xU] [] w Q := by
  refine x_goN 4 (pc' := 8) (ls' := [xA 6 1, xA 3 a1, xI x2, xI x3, xU, xU, xU, xU, xU]) (st' := [xA 5 34, xA 5 35]) (w' := w) rfl ?_
  refine x_call (y := m_Tr_becomeLike) (as := [xA 5 35, xA 5 34]) (rst := []) rfl [xA 5 35, xA 5 34] rfl ?_
  exact h
theorem G_Vp_firstWrong_11 {d : Nat} {a1 : Nat} {x2 : Int32} {x3 : Int32} {w : xWd} {Q : xMV → xWd → Prop} (h : xWp (d + 5) m_Vp_firstWrong 14 [xA 6 1, xA 3 a1, xI x2, xI x3, xI 0, xU, xU, xU, xU] [] w Q) : xWp (d + 5) m_Vp_firstWrong 11 [xA 6 1, xA 3 a1, xI x2, xI x3, xU, xU, xU, xU, xU] [] w Q := by
  refine x_goN 2 (pc' := 14) (ls' := [xA 6 1, xA 3 a1, xI x2, xI x3, xI 0, xU, xU, xU, xU]) (st' := []) (w' := w) rfl ?_
  exact h
theorem G_Vp_firstWrong_14 {d : Nat} {a1 : Nat} {x2 : Int32} {x3 : Int32} {x4 : Int32} {w : xWd} {Q : xMV → xWd → Prop} (h : ((x3 ≤ x4 → Q (xI (-9)) w) ∧ (¬ (x3 ≤ x4) → xWp (d + 4) m_Sh_read 0 [xA 3 a1, xI (x2 + (3 * x4))] [] w (fun a w' => xWp (d + 5) m_Vp_firstWrong 34 [xA 6 1, xA 3 a1, xI x2, xI x3, xI x4, xI (x2 + (3 * x4)), xU, xU, xU] (x_pu a []) w' Q)))) : xWp (d + 5) m_Vp_firstWrong 14 [xA 6 1, xA 3 a1, xI x2, xI x3, xI x4, xU, xU, xU, xU] [] w Q := by
  refine x_goN 3 (pc' := if x3 ≤ x4 then 94 else 20) (ls' := [xA 6 1, xA 3 a1, xI x2, xI x3, xI x4, xU, xU, xU, xU]) (st' := []) (w' := w) rfl ?_
  refine x_br (fun c1 => ?_) (fun c1 => ?_)
  · skip
    refine x_goN 1 (pc' := 96) (ls' := [xA 6 1, xA 3 a1, xI x2, xI x3, xI x4, xU, xU, xU, xU]) (st' := [xI (-9)]) (w' := w) rfl ?_
    exact x_ret (P := True) rfl trivial (h.1 c1)
  · skip
    refine x_goN 8 (pc' := 31) (ls' := [xA 6 1, xA 3 a1, xI x2, xI x3, xI x4, xI (x2 + (3 * x4)), xU, xU, xU]) (st' := [xI (x2 + (3 * x4)), xA 3 a1]) (w' := w) rfl ?_
    refine x_call (y := m_Sh_read) (as := [xA 3 a1, xI (x2 + (3 * x4))]) (rst := []) rfl [xA 3 a1, xI (x2 + (3 * x4))] rfl ?_
    exact (h.2 c1)
theorem G_Vp_firstWrong_34 {d : Nat} {a1 : Nat} {x2 : Int32} {x3 : Int32} {x4 : Int32} {x5 : Int32} {s0 : Int32} {w : xWd} {Q : xMV → xWd → Prop} (h : xWp (d + 4) m_Sh_read 0 [xA 3 a1, xI (x5 + 1)] [] w (fun a w' => xWp (d + 5) m_Vp_firstWrong 44 [xA 6 1, xA 3 a1, xI x2, xI x3, xI x4, xI x5, xI s0, xU, xU] (x_pu a []) w' Q)) : xWp (d + 5) m_Vp_firstWrong 34 [xA 6 1, xA 3 a1, xI x2, xI x3, xI x4, xI x5, xU, xU, xU] [xI s0] w Q := by
  refine x_goN 5 (pc' := 41) (ls' := [xA 6 1, xA 3 a1, xI x2, xI x3, xI x4, xI x5, xI s0, xU, xU]) (st' := [xI (x5 + 1), xA 3 a1]) (w' := w) rfl ?_
  refine x_call (y := m_Sh_read) (as := [xA 3 a1, xI (x5 + 1)]) (rst := []) rfl [xA 3 a1, xI (x5 + 1)] rfl ?_
  exact h
theorem G_Vp_firstWrong_44 {d : Nat} {a1 : Nat} {x2 : Int32} {x3 : Int32} {x4 : Int32} {x5 : Int32} {x6 : Int32} {s0 : Int32} {w : xWd} {Q : xMV → xWd → Prop} (h : xWp (d + 4) m_Sh_read 0 [xA 3 a1, xI (x5 + 2)] [] w (fun a w' => xWp (d + 5) m_Vp_firstWrong 54 [xA 6 1, xA 3 a1, xI x2, xI x3, xI x4, xI x5, xI x6, xI s0, xU] (x_pu a []) w' Q)) : xWp (d + 5) m_Vp_firstWrong 44 [xA 6 1, xA 3 a1, xI x2, xI x3, xI x4, xI x5, xI x6, xU, xU] [xI s0] w Q := by
  refine x_goN 5 (pc' := 51) (ls' := [xA 6 1, xA 3 a1, xI x2, xI x3, xI x4, xI x5, xI x6, xI s0, xU]) (st' := [xI (x5 + 2), xA 3 a1]) (w' := w) rfl ?_
  refine x_call (y := m_Sh_read) (as := [xA 3 a1, xI (x5 + 2)]) (rst := []) rfl [xA 3 a1, xI (x5 + 2)] rfl ?_
  exact h
theorem G_Vp_firstWrong_54 {d : Nat} {T : xT} {a1 : Nat} {x2 : Int32} {x3 : Int32} {x4 : Int32} {x5 : Int32} {x6 : Int32} {x7 : Int32} {s0 : Int32} {w : xWd} {Q : xMV → xWd → Prop} (h : ((tR w 35 T) ∧ ((pU T x6 x7 s0 → xWp (d + 4) m_Tr_useInstead 0 [xA 5 35, xI x6, xI x7, xI s0] [] w (fun a w' => xWp (d + 5) m_Vp_firstWrong 88 [xA 6 1, xA 3 a1, xI x2, xI x3, xI x4, xI x5, xI x6, xI x7, xI s0] (x_pu a []) w' Q)) ∧ (¬ (pU T x6 x7 s0) → Q (xI x4) w)))) : xWp (d + 5) m_Vp_firstWrong 54 [xA 6 1, xA 3 a1, xI x2, xI x3, xI x4, xI x5, xI x6, xI x7, xU] [xI s0] w Q := by
  refine x_goN 6 (pc' := 66) (ls' := [xA 6 1, xA 3 a1, xI x2, xI x3, xI x4, xI x5, xI x6, xI x7, xI s0]) (st' := [xI s0, xI x7, xI x6, xA 5 35]) (w' := w) rfl ?_
  refine x_call (y := m_Tr_mayUse) (as := [xA 5 35, xI x6, xI x7, xI s0]) (rst := []) rfl [xA 5 35, xI x6, xI x7, xI s0] rfl ?_
  refine S_Tr_mayUse h.1 (fun c1 => ?_) (fun c1 => ?_)
  · skip
    refine x_goN 1 (pc' := if (1 : Int32) = (0 : Int32) then 72 else 75) (ls' := [xA 6 1, xA 3 a1, xI x2, xI x3, xI x4, xI x5, xI x6, xI x7, xI s0]) (st' := []) (w' := w) rfl ?_
    refine x_brF (by decide) ?_
    refine x_goN 5 (pc' := 85) (ls' := [xA 6 1, xA 3 a1, xI x2, xI x3, xI x4, xI x5, xI x6, xI x7, xI s0]) (st' := [xI s0, xI x7, xI x6, xA 5 35]) (w' := w) rfl ?_
    refine x_call (y := m_Tr_useInstead) (as := [xA 5 35, xI x6, xI x7, xI s0]) (rst := []) rfl [xA 5 35, xI x6, xI x7, xI s0] rfl ?_
    exact (h.2.1 c1)
  · skip
    refine x_goN 1 (pc' := if (0 : Int32) = (0 : Int32) then 72 else 75) (ls' := [xA 6 1, xA 3 a1, xI x2, xI x3, xI x4, xI x5, xI x6, xI x7, xI s0]) (st' := []) (w' := w) rfl ?_
    refine x_brT (by decide) ?_
    refine x_goN 1 (pc' := 74) (ls' := [xA 6 1, xA 3 a1, xI x2, xI x3, xI x4, xI x5, xI x6, xI x7, xI s0]) (st' := [xI x4]) (w' := w) rfl ?_
    exact x_ret (P := True) rfl trivial (h.2.2 c1)
theorem G_Vp_firstWrong_88 {d : Nat} {a1 : Nat} {x2 : Int32} {x3 : Int32} {x4 : Int32} {x5 : Int32} {x6 : Int32} {x7 : Int32} {x8 : Int32} {w : xWd} {Q : xMV → xWd → Prop} (h : xWp (d + 5) m_Vp_firstWrong 14 [xA 6 1, xA 3 a1, xI x2, xI x3, xI (x4 + 1), xU, xU, xU, xU] [] w Q) : xWp (d + 5) m_Vp_firstWrong 88 [xA 6 1, xA 3 a1, xI x2, xI x3, xI x4, xI x5, xI x6, xI x7, xI x8] [] w Q := by
  refine x_goN 2 (pc' := 14) (ls' := [xA 6 1, xA 3 a1, xI x2, xI x3, xI (x4 + 1), xI x5, xI x6, xI x7, xI x8]) (st' := []) (w' := w) rfl ?_
  exact x_weak (h) ⟨Or.inl rfl, Or.inl rfl, Or.inl rfl, Or.inl rfl, Or.inl rfl, Or.inr ⟨rfl, rfl⟩, Or.inr ⟨rfl, rfl⟩, Or.inr ⟨rfl, rfl⟩, Or.inr ⟨rfl, rfl⟩, trivial⟩
theorem L_Vp_firstWrong {d q i n : Nat} {s : xS} {w0 : xWd} {Q : xMV → xWd → Prop} (h0 : sC s w0) (hq : q < 4) (hr : 0 < s_r s q) (hi : i + 3 * n ≤ s_n s q) : ∀ (m k : Nat) (w : xWd) (T1 : xT), k + m = n → tR w 35 T1 → fT 35 w0 w → (∀ w', tR w' 35 (dGo (fun j => s_c s q (i + j)) m k T1).2 → fT 35 w0 w' → Q (xI (dGo (fun j => s_c s q (i + j)) m k T1).1) w') → xWp (d + 5) m_Vp_firstWrong 14 [xA 6 1, xA 3 (1057 + q), xI (nI i), xI (nI n), xI (nI k), xU, xU, xU, xU] [] w Q := by
  have hb := h0.1.1 q hq
  intro m
  induction m with
  | zero =>
    intro k w T1 hk hR hf h
    have e : k = n := by omega
    subst e
    exact G_Vp_firstWrong_14 ⟨fun _ => h w hR hf, fun c => absurd ((z_le (by omega) (by omega)).mpr (Nat.le_refl _)) c⟩
  | succ m ih =>
    intro k w T1 hk hR hf h
    have hs := (sC_35 h0 hf).1.2.1 q hq
    refine G_Vp_firstWrong_14 ⟨fun c => absurd ((z_le (by omega) (by omega)).mp c) (by omega), fun _ => ?_⟩
    rw [z_i3]
    refine S_Sh_read hs hr hb.2 (by omega) ?_
    refine G_Vp_firstWrong_34 ?_
    rw [nI_1]
    refine S_Sh_read hs hr hb.2 (by omega) ?_
    refine G_Vp_firstWrong_44 ?_
    rw [z_p2]
    refine S_Sh_read hs hr hb.2 (by omega) ?_
    refine G_Vp_firstWrong_54 (T := T1) ⟨hR, fun c => ?_, fun c => ?_⟩
    · rw [dGo_y (f := fun j => s_c s q (i + j)) c] at h
      obtain ⟨a, b, v, e1, e2, e3, ha, hb', hv, hu1, hu2⟩ := id c
      have h8 := tR_n8 hR
      have hm2 := tR_m2 hR ha
      have e1' : s_c s q (i + 3 * k) = nI a := e1
      have e2' : s_c s q (i + (3 * k + 1)) = nI b := e2
      have e3' : s_c s q (i + (3 * k + 2)) = nI v := e3
      have c' : pU T1 (nI a) (nI b) (nI v) := ⟨a, b, v, rfl, rfl, rfl, ha, hb', hv, hu1, hu2⟩
      rw [show i + 3 * k + 1 = i + (3 * k + 1) by omega, show i + 3 * k + 2 = i + (3 * k + 2) by omega, e1', e2', e3']
      refine S_Tr_useInstead (by decide) hR ha hb' hv c' (fun w2 hR2 hf2 => ?_)
      refine G_Vp_firstWrong_88 ?_
      rw [nI_1]
      refine ih (k + 1) w2 _ (by omega) ?_ (fT_tr hf hf2) h
      show tR w2 35 (tReu T1 (s_c s q (i + 3 * k)).toNatClampNeg (s_c s q (i + (3 * k + 1))).toNatClampNeg (s_c s q (i + (3 * k + 2))).toNatClampNeg)
      rw [e1', e2', e3', z_cl' (by omega), z_cl' (by omega), z_cl' (by omega)]
      exact hR2
    · rw [dGo_n (f := fun j => s_c s q (i + j)) c] at h
      exact h w hR hf
theorem G_Md_goDay_0 {d : Nat} {x1 : Int32} {x2 : Int32} {w : xWd} {Q : xMV → xWd → Prop} (h : xWp (d + 2) m_Md_goDay 2 [xA 7 2, xI x1, xI x2, xI 0, xU, xU, xU] [] w Q) : xWp (d + 2) m_Md_goDay 0 [xA 7 2, xI x1, xI x2, xU, xU, xU, xU] [] w Q := by
  refine x_goN 2 (pc' := 2) (ls' := [xA 7 2, xI x1, xI x2, xI 0, xU, xU, xU]) (st' := []) (w' := w) rfl ?_
  exact h
theorem G_Md_goDay_2 {d : Nat} {x1 : Int32} {x2 : Int32} {x3 : Int32} {w : xWd} {Q : xMV → xWd → Prop} (h : ((x2 ≤ x3 → Q (xI (-9)) w) ∧ (¬ (x2 ≤ x3) → (vp_in (x1 + (3 * x3)) 240 ∧ (vp_in ((x1 + (3 * x3)) + 1) 240 ∧ (vp_in ((x1 + (3 * x3)) + 2) 240 ∧ ((p_lt (w 69 (x1 + (3 * x3)).toNatClampNeg) (w 2 5) → (vp_in (w 69 (x1 + (3 * x3)).toNatClampNeg) 8 ∧ ((p_wi (w 69 ((x1 + (3 * x3)) + 1).toNatClampNeg) 0 ((w 73 (w 69 (x1 + (3 * x3)).toNatClampNeg).toNatClampNeg) - 1) → ((p_lt (w 69 ((x1 + (3 * x3)) + 2).toNatClampNeg) (w 2 5) → xWp (d + 1) m_Md_canReuse 0 [xA 7 2, xI (w 69 (x1 + (3 * x3)).toNatClampNeg), xI (w 69 ((x1 + (3 * x3)) + 1).toNatClampNeg), xI (w 69 ((x1 + (3 * x3)) + 2).toNatClampNeg)] [] w (fun a w' => xWp (d + 2) m_Md_goDay 93 [xA 7 2, xI x1, xI x2, xI x3, xI (w 69 (x1 + (3 * x3)).toNatClampNeg), xI (w 69 ((x1 + (3 * x3)) + 1).toNatClampNeg), xI (w 69 ((x1 + (3 * x3)) + 2).toNatClampNeg)] (x_pu a []) w' Q)) ∧ (¬ (p_lt (w 69 ((x1 + (3 * x3)) + 2).toNatClampNeg) (w 2 5)) → Q (xI x3) w))) ∧ (¬ (p_wi (w 69 ((x1 + (3 * x3)) + 1).toNatClampNeg) 0 ((w 73 (w 69 (x1 + (3 * x3)).toNatClampNeg).toNatClampNeg) - 1)) → Q (xI x3) w)))) ∧ (¬ (p_lt (w 69 (x1 + (3 * x3)).toNatClampNeg) (w 2 5)) → Q (xI x3) w)))))))) : xWp (d + 2) m_Md_goDay 2 [xA 7 2, xI x1, xI x2, xI x3, xU, xU, xU] [] w Q := by
  refine x_goN 3 (pc' := if x2 ≤ x3 then 118 else 7) (ls' := [xA 7 2, xI x1, xI x2, xI x3, xU, xU, xU]) (st' := []) (w' := w) rfl ?_
  refine x_br (fun c1 => ?_) (fun c1 => ?_)
  · skip
    refine x_goN 1 (pc' := 120) (ls' := [xA 7 2, xI x1, xI x2, xI x3, xU, xU, xU]) (st' := [xI (-9)]) (w' := w) rfl ?_
    exact x_ret (P := True) rfl trivial (h.1 c1)
  · skip
    refine x_goN 7 (pc' := 16) (ls' := [xA 7 2, xI x1, xI x2, xI x3, xU, xU, xU]) (st' := [xI (x1 + (3 * x3)), xA 340 69]) (w' := w) rfl ?_
    refine x_ob (P := vp_in (x1 + (3 * x3)) 240) (pc' := 17) (ls' := [xA 7 2, xI x1, xI x2, xI x3, xU, xU, xU]) (st' := [xI (w 69 (x1 + (3 * x3)).toNatClampNeg)]) (w' := w) rfl (h.2 c1).1 ?_
    refine x_goN 10 (pc' := 30) (ls' := [xA 7 2, xI x1, xI x2, xI x3, xI (w 69 (x1 + (3 * x3)).toNatClampNeg), xU, xU]) (st' := [xI ((x1 + (3 * x3)) + 1), xA 340 69]) (w' := w) rfl ?_
    refine x_ob (P := vp_in ((x1 + (3 * x3)) + 1) 240) (pc' := 31) (ls' := [xA 7 2, xI x1, xI x2, xI x3, xI (w 69 (x1 + (3 * x3)).toNatClampNeg), xU, xU]) (st' := [xI (w 69 ((x1 + (3 * x3)) + 1).toNatClampNeg)]) (w' := w) rfl (h.2 c1).2.1 ?_
    refine x_goN 10 (pc' := 44) (ls' := [xA 7 2, xI x1, xI x2, xI x3, xI (w 69 (x1 + (3 * x3)).toNatClampNeg), xI (w 69 ((x1 + (3 * x3)) + 1).toNatClampNeg), xU]) (st' := [xI ((x1 + (3 * x3)) + 2), xA 340 69]) (w' := w) rfl ?_
    refine x_ob (P := vp_in ((x1 + (3 * x3)) + 2) 240) (pc' := 45) (ls' := [xA 7 2, xI x1, xI x2, xI x3, xI (w 69 (x1 + (3 * x3)).toNatClampNeg), xI (w 69 ((x1 + (3 * x3)) + 1).toNatClampNeg), xU]) (st' := [xI (w 69 ((x1 + (3 * x3)) + 2).toNatClampNeg)]) (w' := w) rfl (h.2 c1).2.2.1 ?_
    refine x_goN 3 (pc' := 50) (ls' := [xA 7 2, xI x1, xI x2, xI x3, xI (w 69 (x1 + (3 * x3)).toNatClampNeg), xI (w 69 ((x1 + (3 * x3)) + 1).toNatClampNeg), xI (w 69 ((x1 + (3 * x3)) + 2).toNatClampNeg)]) (st' := [xI (w 69 (x1 + (3 * x3)).toNatClampNeg), xA 7 2]) (w' := w) rfl ?_
    refine x_call (y := m_Md_isLine) (as := [xA 7 2, xI (w 69 (x1 + (3 * x3)).toNatClampNeg)]) (rst := []) rfl [xA 7 2, xI (w 69 (x1 + (3 * x3)).toNatClampNeg)] rfl ?_
    refine S_Md_isLine (fun c2 => ?_) (fun c2 => ?_)
    · skip
      refine x_goN 1 (pc' := if (1 : Int32) = (0 : Int32) then 96 else 56) (ls' := [xA 7 2, xI x1, xI x2, xI x3, xI (w 69 (x1 + (3 * x3)).toNatClampNeg), xI (w 69 ((x1 + (3 * x3)) + 1).toNatClampNeg), xI (w 69 ((x1 + (3 * x3)) + 2).toNatClampNeg)]) (st' := []) (w' := w) rfl ?_
      refine x_brF (by decide) ?_
      refine x_goN 5 (pc' := 65) (ls' := [xA 7 2, xI x1, xI x2, xI x3, xI (w 69 (x1 + (3 * x3)).toNatClampNeg), xI (w 69 ((x1 + (3 * x3)) + 1).toNatClampNeg), xI (w 69 ((x1 + (3 * x3)) + 2).toNatClampNeg)]) (st' := [xI (w 69 (x1 + (3 * x3)).toNatClampNeg), xA 108 73, xI 0, xI (w 69 ((x1 + (3 * x3)) + 1).toNatClampNeg)]) (w' := w) rfl ?_
      refine x_ob (P := vp_in (w 69 (x1 + (3 * x3)).toNatClampNeg) 8) (pc' := 66) (ls' := [xA 7 2, xI x1, xI x2, xI x3, xI (w 69 (x1 + (3 * x3)).toNatClampNeg), xI (w 69 ((x1 + (3 * x3)) + 1).toNatClampNeg), xI (w 69 ((x1 + (3 * x3)) + 2).toNatClampNeg)]) (st' := [xI (w 73 (w 69 (x1 + (3 * x3)).toNatClampNeg).toNatClampNeg), xI 0, xI (w 69 ((x1 + (3 * x3)) + 1).toNatClampNeg)]) (w' := w) rfl ((h.2 c1).2.2.2.1 c2).1 ?_
      refine x_goN 2 (pc' := 68) (ls' := [xA 7 2, xI x1, xI x2, xI x3, xI (w 69 (x1 + (3 * x3)).toNatClampNeg), xI (w 69 ((x1 + (3 * x3)) + 1).toNatClampNeg), xI (w 69 ((x1 + (3 * x3)) + 2).toNatClampNeg)]) (st' := [xI ((w 73 (w 69 (x1 + (3 * x3)).toNatClampNeg).toNatClampNeg) - 1), xI 0, xI (w 69 ((x1 + (3 * x3)) + 1).toNatClampNeg)]) (w' := w) rfl ?_
      refine x_call (y := m_Md_within) (as := [xI (w 69 ((x1 + (3 * x3)) + 1).toNatClampNeg), xI 0, xI ((w 73 (w 69 (x1 + (3 * x3)).toNatClampNeg).toNatClampNeg) - 1)]) (rst := []) rfl [xI (w 69 ((x1 + (3 * x3)) + 1).toNatClampNeg), xI 0, xI ((w 73 (w 69 (x1 + (3 * x3)).toNatClampNeg).toNatClampNeg) - 1)] rfl ?_
      refine S_Md_within (fun c3 => ?_) (fun c3 => ?_)
      · skip
        refine x_goN 1 (pc' := if (1 : Int32) = (0 : Int32) then 96 else 74) (ls' := [xA 7 2, xI x1, xI x2, xI x3, xI (w 69 (x1 + (3 * x3)).toNatClampNeg), xI (w 69 ((x1 + (3 * x3)) + 1).toNatClampNeg), xI (w 69 ((x1 + (3 * x3)) + 2).toNatClampNeg)]) (st' := []) (w' := w) rfl ?_
        refine x_brF (by decide) ?_
        refine x_goN 2 (pc' := 77) (ls' := [xA 7 2, xI x1, xI x2, xI x3, xI (w 69 (x1 + (3 * x3)).toNatClampNeg), xI (w 69 ((x1 + (3 * x3)) + 1).toNatClampNeg), xI (w 69 ((x1 + (3 * x3)) + 2).toNatClampNeg)]) (st' := [xI (w 69 ((x1 + (3 * x3)) + 2).toNatClampNeg), xA 7 2]) (w' := w) rfl ?_
        refine x_call (y := m_Md_isLine) (as := [xA 7 2, xI (w 69 ((x1 + (3 * x3)) + 2).toNatClampNeg)]) (rst := []) rfl [xA 7 2, xI (w 69 ((x1 + (3 * x3)) + 2).toNatClampNeg)] rfl ?_
        refine S_Md_isLine (fun c4 => ?_) (fun c4 => ?_)
        · skip
          refine x_goN 1 (pc' := if (1 : Int32) = (0 : Int32) then 96 else 83) (ls' := [xA 7 2, xI x1, xI x2, xI x3, xI (w 69 (x1 + (3 * x3)).toNatClampNeg), xI (w 69 ((x1 + (3 * x3)) + 1).toNatClampNeg), xI (w 69 ((x1 + (3 * x3)) + 2).toNatClampNeg)]) (st' := []) (w' := w) rfl ?_
          refine x_brF (by decide) ?_
          refine x_goN 4 (pc' := 90) (ls' := [xA 7 2, xI x1, xI x2, xI x3, xI (w 69 (x1 + (3 * x3)).toNatClampNeg), xI (w 69 ((x1 + (3 * x3)) + 1).toNatClampNeg), xI (w 69 ((x1 + (3 * x3)) + 2).toNatClampNeg)]) (st' := [xI (w 69 ((x1 + (3 * x3)) + 2).toNatClampNeg), xI (w 69 ((x1 + (3 * x3)) + 1).toNatClampNeg), xI (w 69 (x1 + (3 * x3)).toNatClampNeg), xA 7 2]) (w' := w) rfl ?_
          refine x_call (y := m_Md_canReuse) (as := [xA 7 2, xI (w 69 (x1 + (3 * x3)).toNatClampNeg), xI (w 69 ((x1 + (3 * x3)) + 1).toNatClampNeg), xI (w 69 ((x1 + (3 * x3)) + 2).toNatClampNeg)]) (rst := []) rfl [xA 7 2, xI (w 69 (x1 + (3 * x3)).toNatClampNeg), xI (w 69 ((x1 + (3 * x3)) + 1).toNatClampNeg), xI (w 69 ((x1 + (3 * x3)) + 2).toNatClampNeg)] rfl ?_
          exact ((((h.2 c1).2.2.2.1 c2).2.1 c3).1 c4)
        · skip
          refine x_goN 1 (pc' := if (0 : Int32) = (0 : Int32) then 96 else 83) (ls' := [xA 7 2, xI x1, xI x2, xI x3, xI (w 69 (x1 + (3 * x3)).toNatClampNeg), xI (w 69 ((x1 + (3 * x3)) + 1).toNatClampNeg), xI (w 69 ((x1 + (3 * x3)) + 2).toNatClampNeg)]) (st' := []) (w' := w) rfl ?_
          refine x_brT (by decide) ?_
          refine x_goN 1 (pc' := 97) (ls' := [xA 7 2, xI x1, xI x2, xI x3, xI (w 69 (x1 + (3 * x3)).toNatClampNeg), xI (w 69 ((x1 + (3 * x3)) + 1).toNatClampNeg), xI (w 69 ((x1 + (3 * x3)) + 2).toNatClampNeg)]) (st' := [xI x3]) (w' := w) rfl ?_
          exact x_ret (P := True) rfl trivial ((((h.2 c1).2.2.2.1 c2).2.1 c3).2 c4)
      · skip
        refine x_goN 1 (pc' := if (0 : Int32) = (0 : Int32) then 96 else 74) (ls' := [xA 7 2, xI x1, xI x2, xI x3, xI (w 69 (x1 + (3 * x3)).toNatClampNeg), xI (w 69 ((x1 + (3 * x3)) + 1).toNatClampNeg), xI (w 69 ((x1 + (3 * x3)) + 2).toNatClampNeg)]) (st' := []) (w' := w) rfl ?_
        refine x_brT (by decide) ?_
        refine x_goN 1 (pc' := 97) (ls' := [xA 7 2, xI x1, xI x2, xI x3, xI (w 69 (x1 + (3 * x3)).toNatClampNeg), xI (w 69 ((x1 + (3 * x3)) + 1).toNatClampNeg), xI (w 69 ((x1 + (3 * x3)) + 2).toNatClampNeg)]) (st' := [xI x3]) (w' := w) rfl ?_
        exact x_ret (P := True) rfl trivial (((h.2 c1).2.2.2.1 c2).2.2 c3)
    · skip
      refine x_goN 1 (pc' := if (0 : Int32) = (0 : Int32) then 96 else 56) (ls' := [xA 7 2, xI x1, xI x2, xI x3, xI (w 69 (x1 + (3 * x3)).toNatClampNeg), xI (w 69 ((x1 + (3 * x3)) + 1).toNatClampNeg), xI (w 69 ((x1 + (3 * x3)) + 2).toNatClampNeg)]) (st' := []) (w' := w) rfl ?_
      refine x_brT (by decide) ?_
      refine x_goN 1 (pc' := 97) (ls' := [xA 7 2, xI x1, xI x2, xI x3, xI (w 69 (x1 + (3 * x3)).toNatClampNeg), xI (w 69 ((x1 + (3 * x3)) + 1).toNatClampNeg), xI (w 69 ((x1 + (3 * x3)) + 2).toNatClampNeg)]) (st' := [xI x3]) (w' := w) rfl ?_
      exact x_ret (P := True) rfl trivial ((h.2 c1).2.2.2.2 c2)
theorem G_Md_goDay_93 {d : Nat} {x1 : Int32} {x2 : Int32} {x3 : Int32} {x4 : Int32} {x5 : Int32} {x6 : Int32} {s0 : Int32} {w : xWd} {Q : xMV → xWd → Prop} (h : ((s0 = 0 → Q (xI x3) w) ∧ (¬ (s0 = 0) → (vp_in ((2 * x4) + x5) 16 ∧ ∀ w1 : xWd, w1 = x_set w 74 (((2 * x4) + x5).toNatClampNeg) x6 → xWp (d + 2) m_Md_goDay 2 [xA 7 2, xI x1, xI x2, xI (x3 + 1), xU, xU, xU] [] w1 Q)))) : xWp (d + 2) m_Md_goDay 93 [xA 7 2, xI x1, xI x2, xI x3, xI x4, xI x5, xI x6] [xI s0] w Q := by
  refine x_goN 1 (pc' := if s0 = 0 then 96 else 98) (ls' := [xA 7 2, xI x1, xI x2, xI x3, xI x4, xI x5, xI x6]) (st' := []) (w' := w) rfl ?_
  refine x_br (fun c1 => ?_) (fun c1 => ?_)
  · skip
    refine x_goN 1 (pc' := 97) (ls' := [xA 7 2, xI x1, xI x2, xI x3, xI x4, xI x5, xI x6]) (st' := [xI x3]) (w' := w) rfl ?_
    exact x_ret (P := True) rfl trivial (h.1 c1)
  · skip
    refine x_goN 8 (pc' := 111) (ls' := [xA 7 2, xI x1, xI x2, xI x3, xI x4, xI x5, xI x6]) (st' := [xI x6, xI ((2 * x4) + x5), xA 116 74]) (w' := w) rfl ?_
    refine x_obW (P := vp_in ((2 * x4) + x5) 16) (pc' := 112) (ls' := [xA 7 2, xI x1, xI x2, xI x3, xI x4, xI x5, xI x6]) (st' := []) (w' := x_set w 74 (((2 * x4) + x5).toNatClampNeg) x6) rfl (h.2 c1).1 (fun w1 ew1 => ?_)
    refine x_goN 2 (pc' := 2) (ls' := [xA 7 2, xI x1, xI x2, xI (x3 + 1), xI x4, xI x5, xI x6]) (st' := []) (w' := w1) rfl ?_
    exact x_weak (((h.2 c1).2 w1 ew1)) ⟨Or.inl rfl, Or.inl rfl, Or.inl rfl, Or.inl rfl, Or.inr ⟨rfl, rfl⟩, Or.inr ⟨rfl, rfl⟩, Or.inr ⟨rfl, rfl⟩, trivial⟩
theorem L_Md_goDay {d q i n : Nat} {s : xS} {w0 : xWd} {Q : xMV → xWd → Prop} (h0 : sM s w0) (hq : q < 4) (hi : i + 3 * n ≤ 60) : ∀ (m k : Nat) (w : xWd) (T1 : xT), k + m = n → tS w T1 → (∀ a, a ≠ 74 → w a = w0 a) → (∀ w', tS w' (dGo (fun j => s_c s q (i + j)) m k T1).2 → (∀ a, a ≠ 74 → w' a = w0 a) → Q (xI (dGo (fun j => s_c s q (i + j)) m k T1).1) w') → xWp (d + 2) m_Md_goDay 2 [xA 7 2, xI (nI (60 * q + i)), xI (nI n), xI (nI k), xU, xU, xU] [] w Q := by
  intro m
  induction m with
  | zero =>
    intro k w T1 hk hS hf h
    have e : k = n := by omega
    subst e
    exact G_Md_goDay_2 ⟨fun _ => h w hS hf, fun c => absurd ((z_le (by omega) (by omega)).mpr (Nat.le_refl _)) c⟩
  | succ m ih =>
    intro k w T1 hk hS hf h
    have h8 := tS_n8 hS
    have hc := (h0.2.1 q hq).2.2
    have c0 : w 69 (60 * q + i + 3 * k) = s_c s q (i + 3 * k) := by rw [hf 69 (by decide), ← hc (i + 3 * k) (by omega)]; congr 1; omega
    have c1 : w 69 (60 * q + i + 3 * k + 1) = s_c s q (i + (3 * k + 1)) := by rw [hf 69 (by decide), ← hc (i + (3 * k + 1)) (by omega)]; congr 1; omega
    have c2 : w 69 (60 * q + i + 3 * k + 2) = s_c s q (i + (3 * k + 2)) := by rw [hf 69 (by decide), ← hc (i + (3 * k + 2)) (by omega)]; congr 1; omega
    have hno : ¬ pU T1 (s_c s q (i + 3 * k)) (s_c s q (i + (3 * k + 1))) (s_c s q (i + (3 * k + 2))) → Q (xI (nI k)) w := fun c => by
      rw [dGo_n (f := fun j => s_c s q (i + j)) c] at h
      exact h w hS hf
    refine G_Md_goDay_2 ⟨fun c => absurd ((z_le (by omega) (by omega)).mp c) (by omega), fun _ => ?_⟩
    rw [z_i3, nI_1, z_p2, z_cl' (show 60 * q + i + 3 * k < 2 ^ 31 by omega), z_cl' (show 60 * q + i + 3 * k + 1 < 2 ^ 31 by omega), z_cl' (show 60 * q + i + 3 * k + 2 < 2 ^ 31 by omega), c0, c1, c2]
    refine ⟨z_in (by omega) (by decide), z_in (by omega) (by decide), z_in (by omega) (by decide), fun p1 => ?_, fun p1 => hno (fun ⟨a, b, v, e1, e2, e3, ha, hb', hv, _⟩ => p1 (by rw [e1]; exact tS_lt hS ha))⟩
    obtain ⟨a, ha, e1⟩ := tS_ln hS p1
    have hm2 := tS_m2 hS ha
    rw [e1, tM_m hS ha]
    refine ⟨z_in (by omega) (by decide), fun p2 => ?_, fun p2 => hno (fun ⟨a', b, v, f1, f2, f3, ha', hb', hv, _⟩ => p2 ?_)⟩
    · obtain ⟨b, e2, hb⟩ := (z_wi (b := 0) (by omega)).mp p2
      refine ⟨fun p3 => ?_, fun p3 => hno (fun ⟨a', b', v, f1, f2, f3, ha', hb', hv, _⟩ => p3 (by rw [f3]; exact tS_lt hS hv))⟩
      obtain ⟨v, hv, e3⟩ := tS_ln hS p3
      rw [e2, e3]
      rw [e1, e2, e3] at hno
      refine S_Md_canReuse hS ha hb hv (fun p => ?_) (fun p => G_Md_goDay_93 ⟨fun _ => hno p, fun c => absurd rfl c⟩)
      refine G_Md_goDay_93 ⟨fun c => absurd c n_10, fun _ => ?_⟩
      rw [z_2l, nI_1]
      refine ⟨z_in (by omega) (by decide), fun w1 ew1 => ?_⟩
      have hS1 := M_reuse hS ha hb hv p ew1
      have c : pU T1 (s_c s q (i + 3 * k)) (s_c s q (i + (3 * k + 1))) (s_c s q (i + (3 * k + 2))) := by rw [e1, e2, e3]; exact p
      rw [dGo_y (f := fun j => s_c s q (i + j)) c] at h
      refine ih (k + 1) w1 _ (by omega) ?_ (fun a' ha' => by rw [ew1, x_set_o ha', hf a' ha']) h
      show tS w1 (tReu T1 (s_c s q (i + 3 * k)).toNatClampNeg (s_c s q (i + (3 * k + 1))).toNatClampNeg (s_c s q (i + (3 * k + 2))).toNatClampNeg)
      rw [e1, e2, e3, z_cl' (by omega), z_cl' (by omega), z_cl' (by omega)]
      exact hS1
    · have ea := (z_eq (by omega) (by omega)).mp (e1.symm.trans f1)
      subst ea
      exact (z_wi (b := 0) (by omega)).mpr ⟨b, f2, hb'⟩
/-! what is told of a day's tree -/
def tD (T : xT) (x : Int32) : Int32 := if x = 0 then nI (fMx T) else if x = 2 then nI (nCo T) else if x = 3 then nI (h_go T 3 (tn T)).2.2.1 else if x = 4 then nI (nCr T) else if (x - 10).toNatClampNeg < tn T then nI (tCl T (x - 10).toNatClampNeg) else -9
def gTl (w w' : xWd) : Prop := ∀ a, a ≠ 37 → a ≠ 1185 → a ≠ 1128 → w' a = w a
theorem cG_gTl {T : xT} {w w' : xWd} {k : Nat} (h : cG 35 T w w' k) : gTl w w' := fun a _ _ a3 => h.1 a a3
theorem G_Vp_ofTrial_0 {d : Nat} {x1 : Int32} {w : xWd} {Q : xMV → xWd → Prop} (h : ((x1 = 0 → xWp (d + 4) m_Tr_greatestPressure 0 [xA 5 35, xU, xU] [] w (fun a w' => xWp (d + 5) m_Vp_ofTrial 43 [xA 6 1, xI x1] (x_pu a []) w' Q)) ∧ (¬ (x1 = 0) → ((x1 = 1 → ((p_lt (x1 - 10) (w 35 8) → xWp (d + 4) m_Tr_colourOf 0 [xA 5 35, xI (x1 - 10)] [] w (fun a w' => xWp (d + 5) m_Vp_ofTrial 105 [xA 6 1, xI x1] (x_pu a []) w' Q)) ∧ (¬ (p_lt (x1 - 10) (w 35 8)) → Q (xI (-9)) w))) ∧ (¬ (x1 = 1) → ((x1 = 2 → xWp (d + 4) m_Tr_howManyColours 0 [xA 5 35, xU, xU] [] w (fun a w' => xWp (d + 5) m_Vp_ofTrial 51 [xA 6 1, xI x1] (x_pu a []) w' Q)) ∧ (¬ (x1 = 2) → ((x1 = 3 → xWp (d + 4) m_Ho_goThrough 0 [xA 0 37, xA 5 35, xI 3, xU, xU] [] w (fun a w' => xWp (d + 5) m_Vp_ofTrial 64 [xA 6 1, xI x1] (x_pu a []) w' Q)) ∧ (¬ (x1 = 3) → ((x1 = 4 → xWp (d + 4) m_Tr_howManyCross 0 [xA 5 35, xU, xU] [] w (fun a w' => xWp (d + 5) m_Vp_ofTrial 79 [xA 6 1, xI x1] (x_pu a []) w' Q)) ∧ (¬ (x1 = 4) → ((p_lt (x1 - 10) (w 35 8) → xWp (d + 4) m_Tr_colourOf 0 [xA 5 35, xI (x1 - 10)] [] w (fun a w' => xWp (d + 5) m_Vp_ofTrial 105 [xA 6 1, xI x1] (x_pu a []) w' Q)) ∧ (¬ (p_lt (x1 - 10) (w 35 8)) → Q (xI (-9)) w))))))))))))) : xWp (d + 5) m_Vp_ofTrial 0 [xA 6 1, xI x1] [] w Q := by
  refine x_goN 2 (pc' := if x1 = 0 then 36 else if x1 = 1 then 80 else if x1 = 2 then 44 else if x1 = 3 then 52 else if x1 = 4 then 72 else 80) (ls' := [xA 6 1, xI x1]) (st' := []) (w' := w) rfl ?_
  refine x_br (fun c1 => ?_) (fun c1 => ?_)
  · skip
    refine x_goN 2 (pc' := 40) (ls' := [xA 6 1, xI x1]) (st' := [xA 5 35]) (w' := w) rfl ?_
    refine x_call (y := m_Tr_greatestPressure) (as := [xA 5 35]) (rst := []) rfl [xA 5 35, xU, xU] rfl ?_
    exact (h.1 c1)
  · skip
    refine x_br (fun c2 => ?_) (fun c2 => ?_)
    · skip
      refine x_goN 5 (pc' := 88) (ls' := [xA 6 1, xI x1]) (st' := [xI (x1 - 10), xA 5 35]) (w' := w) rfl ?_
      refine x_call (y := m_Tr_isLine) (as := [xA 5 35, xI (x1 - 10)]) (rst := []) rfl [xA 5 35, xI (x1 - 10)] rfl ?_
      refine S_Tr_isLine (fun c3 => ?_) (fun c3 => ?_)
      · skip
        refine x_goN 1 (pc' := if (1 : Int32) = (0 : Int32) then 108 else 94) (ls' := [xA 6 1, xI x1]) (st' := []) (w' := w) rfl ?_
        refine x_brF (by decide) ?_
        refine x_goN 5 (pc' := 102) (ls' := [xA 6 1, xI x1]) (st' := [xI (x1 - 10), xA 5 35]) (w' := w) rfl ?_
        refine x_call (y := m_Tr_colourOf) (as := [xA 5 35, xI (x1 - 10)]) (rst := []) rfl [xA 5 35, xI (x1 - 10)] rfl ?_
        exact (((h.2 c1).1 c2).1 c3)
      · skip
        refine x_goN 1 (pc' := if (0 : Int32) = (0 : Int32) then 108 else 94) (ls' := [xA 6 1, xI x1]) (st' := []) (w' := w) rfl ?_
        refine x_brT (by decide) ?_
        refine x_goN 1 (pc' := 110) (ls' := [xA 6 1, xI x1]) (st' := [xI (-9)]) (w' := w) rfl ?_
        exact x_ret (P := True) rfl trivial (((h.2 c1).1 c2).2 c3)
    · skip
      refine x_br (fun c4 => ?_) (fun c4 => ?_)
      · skip
        refine x_goN 2 (pc' := 48) (ls' := [xA 6 1, xI x1]) (st' := [xA 5 35]) (w' := w) rfl ?_
        refine x_call (y := m_Tr_howManyColours) (as := [xA 5 35]) (rst := []) rfl [xA 5 35, xU, xU] rfl ?_
        exact (((h.2 c1).2 c2).1 c4)
      · skip
        refine x_br (fun c5 => ?_) (fun c5 => ?_)
        · skip
          refine x_goN 5 (pc' := 61) (ls' := [xA 6 1, xI x1]) (st' := [xI 3, xA 5 35, xA 0 37]) (w' := w) rfl ?_
          refine x_call (y := m_Ho_goThrough) (as := [xA 0 37, xA 5 35, xI 3]) (rst := []) rfl [xA 0 37, xA 5 35, xI 3, xU, xU] rfl ?_
          exact ((((h.2 c1).2 c2).2 c4).1 c5)
        · skip
          refine x_br (fun c6 => ?_) (fun c6 => ?_)
          · skip
            refine x_goN 2 (pc' := 76) (ls' := [xA 6 1, xI x1]) (st' := [xA 5 35]) (w' := w) rfl ?_
            refine x_call (y := m_Tr_howManyCross) (as := [xA 5 35]) (rst := []) rfl [xA 5 35, xU, xU] rfl ?_
            exact (((((h.2 c1).2 c2).2 c4).2 c5).1 c6)
          · skip
            refine x_goN 5 (pc' := 88) (ls' := [xA 6 1, xI x1]) (st' := [xI (x1 - 10), xA 5 35]) (w' := w) rfl ?_
            refine x_call (y := m_Tr_isLine) (as := [xA 5 35, xI (x1 - 10)]) (rst := []) rfl [xA 5 35, xI (x1 - 10)] rfl ?_
            refine S_Tr_isLine (fun c7 => ?_) (fun c7 => ?_)
            · skip
              refine x_goN 1 (pc' := if (1 : Int32) = (0 : Int32) then 108 else 94) (ls' := [xA 6 1, xI x1]) (st' := []) (w' := w) rfl ?_
              refine x_brF (by decide) ?_
              refine x_goN 5 (pc' := 102) (ls' := [xA 6 1, xI x1]) (st' := [xI (x1 - 10), xA 5 35]) (w' := w) rfl ?_
              refine x_call (y := m_Tr_colourOf) (as := [xA 5 35, xI (x1 - 10)]) (rst := []) rfl [xA 5 35, xI (x1 - 10)] rfl ?_
              exact ((((((h.2 c1).2 c2).2 c4).2 c5).2 c6).1 c7)
            · skip
              refine x_goN 1 (pc' := if (0 : Int32) = (0 : Int32) then 108 else 94) (ls' := [xA 6 1, xI x1]) (st' := []) (w' := w) rfl ?_
              refine x_brT (by decide) ?_
              refine x_goN 1 (pc' := 110) (ls' := [xA 6 1, xI x1]) (st' := [xI (-9)]) (w' := w) rfl ?_
              exact x_ret (P := True) rfl trivial ((((((h.2 c1).2 c2).2 c4).2 c5).2 c6).2 c7)
theorem G_Vp_ofTrial_43 {d : Nat} {x1 : Int32} {s0 : Int32} {w : xWd} {Q : xMV → xWd → Prop} (h : Q (xI s0) w) : xWp (d + 5) m_Vp_ofTrial 43 [xA 6 1, xI x1] [xI s0] w Q := by
  exact x_ret (P := True) rfl trivial h
theorem G_Vp_ofTrial_51 {d : Nat} {x1 : Int32} {s0 : Int32} {w : xWd} {Q : xMV → xWd → Prop} (h : Q (xI s0) w) : xWp (d + 5) m_Vp_ofTrial 51 [xA 6 1, xI x1] [xI s0] w Q := by
  exact x_ret (P := True) rfl trivial h
theorem G_Vp_ofTrial_64 {d : Nat} {x1 : Int32} {w : xWd} {Q : xMV → xWd → Prop} (h : Q (xI (w 37 1)) w) : xWp (d + 5) m_Vp_ofTrial 64 [xA 6 1, xI x1] [] w Q := by
  refine x_goN 3 (pc' := 71) (ls' := [xA 6 1, xI x1]) (st' := [xI (w 37 1)]) (w' := w) rfl ?_
  exact x_ret (P := True) rfl trivial h
theorem G_Vp_ofTrial_79 {d : Nat} {x1 : Int32} {s0 : Int32} {w : xWd} {Q : xMV → xWd → Prop} (h : Q (xI s0) w) : xWp (d + 5) m_Vp_ofTrial 79 [xA 6 1, xI x1] [xI s0] w Q := by
  exact x_ret (P := True) rfl trivial h
theorem G_Vp_ofTrial_105 {d : Nat} {x1 : Int32} {s0 : Int32} {w : xWd} {Q : xMV → xWd → Prop} (h : Q (xI s0) w) : xWp (d + 5) m_Vp_ofTrial 105 [xA 6 1, xI x1] [xI s0] w Q := by
  refine x_goN 1 (pc' := 110) (ls' := [xA 6 1, xI x1]) (st' := [xI s0]) (w' := w) rfl ?_
  exact x_ret (P := True) rfl trivial h
theorem S_Vp_ofTrial {d : Nat} {T : xT} {w : xWd} {Q : xMV → xWd → Prop} {x : Int32} (hR : tR w 35 T) (hq : (0 ≤ x.toInt ∧ x.toInt ≤ 4) ∨ (10 ≤ x.toInt ∧ x.toInt ≤ 17)) (h1 : x ≠ 1) (h : ∀ w', gTl w w' → Q (xI (tD T x)) w') : xWp (d + 5) m_Vp_ofTrial 0 [xA 6 1, xI x] [] w Q := by
  have h8 := tR_n8 hR
  unfold tD at h
  refine G_Vp_ofTrial_0 ⟨fun c => ?_, fun c0 => ⟨fun c => absurd c h1, fun c1 => ⟨fun c => ?_, fun c2 => ⟨fun c => ?_, fun c3 => ⟨fun c => ?_, fun c4 => ?_⟩⟩⟩⟩⟩
  · rw [if_pos c] at h
    exact S_Tr_greatestPressure hR (G_Vp_ofTrial_43 (h w (fun _ _ _ _ => rfl)))
  · rw [if_neg c0, if_pos c] at h
    exact S_Tr_howManyColours hR (fun w' g => G_Vp_ofTrial_51 (h w' (cG_gTl g)))
  · rw [if_neg c0, if_neg c2, if_pos c] at h
    exact S_Ho_goThrough (k := 3) (Or.inr rfl) hR (by decide) (by decide) (fun w' g hG => G_Vp_ofTrial_64 (by rw [hG.1.1]; exact h w' (fun a a1 a2 _ => g a a1 a2)))
  · rw [if_neg c0, if_neg c2, if_neg c3, if_pos c] at h
    exact S_Tr_howManyCross hR (G_Vp_ofTrial_79 (h w (fun _ _ _ _ => rfl)))
  · rw [if_neg c0, if_neg c2, if_neg c3, if_neg c4] at h
    rw [fa_eq, e_l0] at c0
    rw [fa_eq, e_l1] at c1
    rw [fa_eq, e_l2] at c2
    rw [fa_eq, e_l3] at c3
    rw [fa_eq, e_l4] at c4
    obtain ⟨j, hj, ex, ex10⟩ := z_10 (x := x) (T := T) (w := w) h8 (by omega) (by omega)
    rw [ex10, z_cl' (by omega)] at h
    rw [ex10, hR.1.1, p_lt_n (by omega) (by omega)]
    refine ⟨fun c => ?_, fun c => ?_⟩
    · rw [if_pos c] at h
      exact S_Tr_colourOf hR c (fun w' g => G_Vp_ofTrial_105 (h w' (cG_gTl g)))
    · rw [if_neg c] at h
      exact h w (fun _ _ _ _ => rfl)
def fTl (w w' : xWd) : Prop := (∀ a, a ≠ 2 → a ≠ 81 → a ≠ 83 → w' a = w a) ∧ ∀ j, (j < 19 ∨ 21 < j) → w' 2 j = w 2 j
theorem fTl_rf (w : xWd) : fTl w w := ⟨fun _ _ _ _ => rfl, fun _ _ => rfl⟩
theorem cH_fTl {T : xT} {w w' : xWd} {k : Nat} (h : cH T w w' k) : fTl w w' := ⟨fun a _ a2 _ => h.1 a a2, fun j _ => by rw [h.1 2 (by decide)]⟩
theorem G_Md_tellDay_0 {d : Nat} {x1 : Int32} {w : xWd} {Q : xMV → xWd → Prop} (h : ((x1 < 10 → ((x1 = 0 → xWp (d + 4) m_Md_greatestPressure 0 [xA 7 2, xU, xU] [] w (fun a w' => xWp (d + 5) m_Md_tellDay 68 [xA 7 2, xI x1] (x_pu a []) w' Q)) ∧ (¬ (x1 = 0) → ((x1 = 1 → xWp (d + 4) m_Md_manyCross 0 [xA 7 2, xU, xU, xU] [] w (fun a w' => xWp (d + 5) m_Md_tellDay 88 [xA 7 2, xI x1] (x_pu a []) w' Q)) ∧ (¬ (x1 = 1) → ((x1 = 2 → xWp (d + 4) m_Md_manyColours 0 [xA 7 2, xU, xU] [] w (fun a w' => xWp (d + 5) m_Md_tellDay 73 [xA 7 2, xI x1] (x_pu a []) w' Q)) ∧ (¬ (x1 = 2) → ((x1 = 3 → xWp (d + 4) m_Md_findHeld 0 [xA 7 2, xI 3, xU] [] w (fun a w' => xWp (d + 5) m_Md_tellDay 79 [xA 7 2, xI x1] (x_pu a []) w' Q)) ∧ (¬ (x1 = 3) → xWp (d + 4) m_Md_manyCross 0 [xA 7 2, xU, xU, xU] [] w (fun a w' => xWp (d + 5) m_Md_tellDay 88 [xA 7 2, xI x1] (x_pu a []) w' Q)))))))))) ∧ (¬ (x1 < 10) → ((p_lt (x1 - 10) (w 2 5) → xWp (d + 4) m_Md_colourOf 0 [xA 7 2, xI (x1 - 10)] [] w (fun a w' => xWp (d + 5) m_Md_tellDay 25 [xA 7 2, xI x1] (x_pu a []) w' Q)) ∧ (¬ (p_lt (x1 - 10) (w 2 5)) → Q (xI (-9)) w))))) : xWp (d + 5) m_Md_tellDay 0 [xA 7 2, xI x1] [] w Q := by
  refine x_goN 3 (pc' := if x1 < 10 then 31 else 6) (ls' := [xA 7 2, xI x1]) (st' := []) (w' := w) rfl ?_
  refine x_br (fun c1 => ?_) (fun c1 => ?_)
  · skip
    refine x_goN 2 (pc' := if x1 = 0 then 64 else if x1 = 1 then 84 else if x1 = 2 then 69 else if x1 = 3 then 74 else 84) (ls' := [xA 7 2, xI x1]) (st' := []) (w' := w) rfl ?_
    refine x_br (fun c2 => ?_) (fun c2 => ?_)
    · skip
      refine x_goN 1 (pc' := 65) (ls' := [xA 7 2, xI x1]) (st' := [xA 7 2]) (w' := w) rfl ?_
      refine x_call (y := m_Md_greatestPressure) (as := [xA 7 2]) (rst := []) rfl [xA 7 2, xU, xU] rfl ?_
      exact ((h.1 c1).1 c2)
    · skip
      refine x_br (fun c3 => ?_) (fun c3 => ?_)
      · skip
        refine x_goN 1 (pc' := 85) (ls' := [xA 7 2, xI x1]) (st' := [xA 7 2]) (w' := w) rfl ?_
        refine x_call (y := m_Md_manyCross) (as := [xA 7 2]) (rst := []) rfl [xA 7 2, xU, xU, xU] rfl ?_
        exact (((h.1 c1).2 c2).1 c3)
      · skip
        refine x_br (fun c4 => ?_) (fun c4 => ?_)
        · skip
          refine x_goN 1 (pc' := 70) (ls' := [xA 7 2, xI x1]) (st' := [xA 7 2]) (w' := w) rfl ?_
          refine x_call (y := m_Md_manyColours) (as := [xA 7 2]) (rst := []) rfl [xA 7 2, xU, xU] rfl ?_
          exact ((((h.1 c1).2 c2).2 c3).1 c4)
        · skip
          refine x_br (fun c5 => ?_) (fun c5 => ?_)
          · skip
            refine x_goN 2 (pc' := 76) (ls' := [xA 7 2, xI x1]) (st' := [xI 3, xA 7 2]) (w' := w) rfl ?_
            refine x_call (y := m_Md_findHeld) (as := [xA 7 2, xI 3]) (rst := []) rfl [xA 7 2, xI 3, xU] rfl ?_
            exact (((((h.1 c1).2 c2).2 c3).2 c4).1 c5)
          · skip
            refine x_goN 1 (pc' := 85) (ls' := [xA 7 2, xI x1]) (st' := [xA 7 2]) (w' := w) rfl ?_
            refine x_call (y := m_Md_manyCross) (as := [xA 7 2]) (rst := []) rfl [xA 7 2, xU, xU, xU] rfl ?_
            exact (((((h.1 c1).2 c2).2 c3).2 c4).2 c5)
  · skip
    refine x_goN 4 (pc' := 11) (ls' := [xA 7 2, xI x1]) (st' := [xI (x1 - 10), xA 7 2]) (w' := w) rfl ?_
    refine x_call (y := m_Md_isLine) (as := [xA 7 2, xI (x1 - 10)]) (rst := []) rfl [xA 7 2, xI (x1 - 10)] rfl ?_
    refine S_Md_isLine (fun c6 => ?_) (fun c6 => ?_)
    · skip
      refine x_goN 1 (pc' := if (1 : Int32) = (0 : Int32) then 28 else 17) (ls' := [xA 7 2, xI x1]) (st' := []) (w' := w) rfl ?_
      refine x_brF (by decide) ?_
      refine x_goN 4 (pc' := 22) (ls' := [xA 7 2, xI x1]) (st' := [xI (x1 - 10), xA 7 2]) (w' := w) rfl ?_
      refine x_call (y := m_Md_colourOf) (as := [xA 7 2, xI (x1 - 10)]) (rst := []) rfl [xA 7 2, xI (x1 - 10)] rfl ?_
      exact ((h.2 c1).1 c6)
    · skip
      refine x_goN 1 (pc' := if (0 : Int32) = (0 : Int32) then 28 else 17) (ls' := [xA 7 2, xI x1]) (st' := []) (w' := w) rfl ?_
      refine x_brT (by decide) ?_
      refine x_goN 1 (pc' := 30) (ls' := [xA 7 2, xI x1]) (st' := [xI (-9)]) (w' := w) rfl ?_
      exact x_ret (P := True) rfl trivial ((h.2 c1).2 c6)
theorem G_Md_tellDay_25 {d : Nat} {x1 : Int32} {s0 : Int32} {w : xWd} {Q : xMV → xWd → Prop} (h : Q (xI s0) w) : xWp (d + 5) m_Md_tellDay 25 [xA 7 2, xI x1] [xI s0] w Q := by
  refine x_goN 1 (pc' := 30) (ls' := [xA 7 2, xI x1]) (st' := [xI s0]) (w' := w) rfl ?_
  exact x_ret (P := True) rfl trivial h
theorem G_Md_tellDay_68 {d : Nat} {x1 : Int32} {s0 : Int32} {w : xWd} {Q : xMV → xWd → Prop} (h : Q (xI s0) w) : xWp (d + 5) m_Md_tellDay 68 [xA 7 2, xI x1] [xI s0] w Q := by
  exact x_ret (P := True) rfl trivial h
theorem G_Md_tellDay_73 {d : Nat} {x1 : Int32} {s0 : Int32} {w : xWd} {Q : xMV → xWd → Prop} (h : Q (xI s0) w) : xWp (d + 5) m_Md_tellDay 73 [xA 7 2, xI x1] [xI s0] w Q := by
  exact x_ret (P := True) rfl trivial h
theorem G_Md_tellDay_79 {d : Nat} {x1 : Int32} {w : xWd} {Q : xMV → xWd → Prop} (h : Q (xI (w 2 19)) w) : xWp (d + 5) m_Md_tellDay 79 [xA 7 2, xI x1] [] w Q := by
  refine x_goN 2 (pc' := 83) (ls' := [xA 7 2, xI x1]) (st' := [xI (w 2 19)]) (w' := w) rfl ?_
  exact x_ret (P := True) rfl trivial h
theorem G_Md_tellDay_88 {d : Nat} {x1 : Int32} {s0 : Int32} {w : xWd} {Q : xMV → xWd → Prop} (h : Q (xI s0) w) : xWp (d + 5) m_Md_tellDay 88 [xA 7 2, xI x1] [xI s0] w Q := by
  exact x_ret (P := True) rfl trivial h
theorem S_Md_tellDay {d : Nat} {T : xT} {w : xWd} {Q : xMV → xWd → Prop} {x : Int32} (hS : tS w T) (hq : (0 ≤ x.toInt ∧ x.toInt ≤ 4) ∨ (10 ≤ x.toInt ∧ x.toInt ≤ 17)) (h : ∀ (w' : xWd) (r : Int32), (x ≠ 1 → r = tD T x) → fTl w w' → Q (xI r) w') : xWp (d + 5) m_Md_tellDay 0 [xA 7 2, xI x] [] w Q := by
  have h8 := tS_n8 hS
  have lt10 : x < 10 ↔ x.toInt < 10 := by rw [fa_lt, e_l10]
  unfold tD at h
  refine G_Md_tellDay_0 ⟨fun cl => ⟨fun c => ?_, fun c0 => ⟨fun c => ?_, fun c1 => ⟨fun c => ?_, fun c2 => ⟨fun c => ?_, fun c3 => ?_⟩⟩⟩⟩, fun cl => ?_⟩
  · rw [if_pos c] at h
    exact S_Md_greatestPressure hS (G_Md_tellDay_68 (h w _ (fun _ => rfl) (fTl_rf w)))
  · exact S_Md_manyCross hS (G_Md_tellDay_88 (h w _ (fun q => absurd c q) (fTl_rf w)))
  · rw [if_neg c0, if_pos c] at h
    exact S_Md_manyColours hS (fun w' g => G_Md_tellDay_73 (h w' _ (fun _ => rfl) (cH_fTl g)))
  · rw [if_neg c0, if_neg c2, if_pos c] at h
    exact S_Md_findHeld (k := 3) hS (by decide) (by decide) (fun w' g hG => G_Md_tellDay_79 (by rw [hG.1.1]; exact h w' _ (fun _ => rfl) ⟨fun a a1 _ a3 => g.1 a a1 a3, g.2⟩))
  · have c4 : x = 4 := by
      rw [lt10] at cl
      rw [fa_eq, e_l0] at c0
      rw [fa_eq, e_l1] at c1
      rw [fa_eq, e_l2] at c2
      rw [fa_eq, e_l3] at c3
      rw [fa_eq, e_l4]
      omega
    rw [if_neg c0, if_neg c2, if_neg c3, if_pos c4] at h
    exact S_Md_manyCross hS (G_Md_tellDay_88 (h w _ (fun _ => rfl) (fTl_rf w)))
  · rw [lt10] at cl
    have n0 : ¬ x = 0 := fun q => by rw [fa_eq, e_l0] at q; omega
    have n2 : ¬ x = 2 := fun q => by rw [fa_eq, e_l2] at q; omega
    have n3 : ¬ x = 3 := fun q => by rw [fa_eq, e_l3] at q; omega
    have n4 : ¬ x = 4 := fun q => by rw [fa_eq, e_l4] at q; omega
    rw [if_neg n0, if_neg n2, if_neg n3, if_neg n4] at h
    obtain ⟨j, hj, ex, ex10⟩ := z_10 (x := x) (T := T) (w := w) h8 (by omega) (by omega)
    rw [ex10, z_cl' (by omega)] at h
    rw [ex10, hS.1.1, p_lt_n (by omega) (by omega)]
    refine ⟨fun c => ?_, fun c => ?_⟩
    · rw [if_pos c] at h
      exact S_Md_colourOf hS c (fun w' g => G_Md_tellDay_25 (h w' _ (fun _ => rfl) (cH_fTl g)))
    · rw [if_neg c] at h
      exact h w _ (fun _ => rfl) (fTl_rf w)
/-! the uses are kept, and put back -/
theorem G_Md_day_0 {d : Nat} {x1 : Int32} {x2 : Int32} {x3 : Int32} {x4 : Int32} {x5 : Int32} {w : xWd} {Q : xMV → xWd → Prop} (h : (∀ w1 : xWd, w1 = x_set w 2 0 0 → ((p_rg x1 0 3 → ((p_rg x2 0 2 → ((p_wi x4 0 20 → ((p_wi x5 0 4 → xWp (d + 5) m_Md_against 0 [xA 7 2, xI x1, xI x2, xI x3, xI (3 * x4)] [] w1 (fun a w' => xWp (d + 6) m_Md_day 68 [xA 7 2, xI x1, xI x2, xI x3, xI x4, xI x5, xU, xU, xU, xU] (x_pu a []) w' Q)) ∧ (¬ (p_wi x5 0 4) → ((p_wi x5 10 17 → xWp (d + 5) m_Md_against 0 [xA 7 2, xI x1, xI x2, xI x3, xI (3 * x4)] [] w1 (fun a w' => xWp (d + 6) m_Md_day 68 [xA 7 2, xI x1, xI x2, xI x3, xI x4, xI x5, xU, xU, xU, xU] (x_pu a []) w' Q)) ∧ (¬ (p_wi x5 10 17) → Q (xI (-2)) w1))))) ∧ (¬ (p_wi x4 0 20) → Q (xI (-2)) w1))) ∧ (¬ (p_rg x2 0 2) → Q (xI (-2)) w1))) ∧ (¬ (p_rg x1 0 3) → Q (xI (-1)) w1)))) : xWp (d + 6) m_Md_day 0 [xA 7 2, xI x1, xI x2, xI x3, xI x4, xI x5, xU, xU, xU, xU] [] w Q := by
  refine x_goN 2 (pc' := 2) (ls' := [xA 7 2, xI x1, xI x2, xI x3, xI x4, xI x5, xU, xU, xU, xU]) (st' := [xI 0, xA 7 2]) (w' := w) rfl ?_
  refine x_goW (pc' := 5) (ls' := [xA 7 2, xI x1, xI x2, xI x3, xI x4, xI x5, xU, xU, xU, xU]) (st' := []) (w' := x_set w 2 0 0) rfl (fun w1 ew1 => ?_)
  refine x_goN 1 (pc' := 6) (ls' := [xA 7 2, xI x1, xI x2, xI x3, xI x4, xI x5, xU, xU, xU, xU]) (st' := [xI x1]) (w' := w1) rfl ?_
  refine x_call (y := m_Md_isSheet) (as := [xI x1]) (rst := []) rfl [xI x1] rfl ?_
  refine S_Md_isSheet (fun c1 => ?_) (fun c1 => ?_)
  · skip
    refine x_goN 1 (pc' := if (1 : Int32) = (0 : Int32) then 12 else 14) (ls' := [xA 7 2, xI x1, xI x2, xI x3, xI x4, xI x5, xU, xU, xU, xU]) (st' := []) (w' := w1) rfl ?_
    refine x_brF (by decide) ?_
    refine x_goN 1 (pc' := 15) (ls' := [xA 7 2, xI x1, xI x2, xI x3, xI x4, xI x5, xU, xU, xU, xU]) (st' := [xI x2]) (w' := w1) rfl ?_
    refine x_call (y := m_Md_isSort) (as := [xI x2]) (rst := []) rfl [xI x2] rfl ?_
    refine S_Md_isSort (fun c2 => ?_) (fun c2 => ?_)
    · skip
      refine x_goN 1 (pc' := if (1 : Int32) = (0 : Int32) then 54 else 21) (ls' := [xA 7 2, xI x1, xI x2, xI x3, xI x4, xI x5, xU, xU, xU, xU]) (st' := []) (w' := w1) rfl ?_
      refine x_brF (by decide) ?_
      refine x_goN 3 (pc' := 26) (ls' := [xA 7 2, xI x1, xI x2, xI x3, xI x4, xI x5, xU, xU, xU, xU]) (st' := [xI 20, xI 0, xI x4]) (w' := w1) rfl ?_
      refine x_call (y := m_Md_within) (as := [xI x4, xI 0, xI 20]) (rst := []) rfl [xI x4, xI 0, xI 20] rfl ?_
      refine S_Md_within (fun c3 => ?_) (fun c3 => ?_)
      · skip
        refine x_goN 1 (pc' := if (1 : Int32) = (0 : Int32) then 54 else 32) (ls' := [xA 7 2, xI x1, xI x2, xI x3, xI x4, xI x5, xU, xU, xU, xU]) (st' := []) (w' := w1) rfl ?_
        refine x_brF (by decide) ?_
        refine x_goN 3 (pc' := 36) (ls' := [xA 7 2, xI x1, xI x2, xI x3, xI x4, xI x5, xU, xU, xU, xU]) (st' := [xI 4, xI 0, xI x5]) (w' := w1) rfl ?_
        refine x_call (y := m_Md_within) (as := [xI x5, xI 0, xI 4]) (rst := []) rfl [xI x5, xI 0, xI 4] rfl ?_
        refine S_Md_within (fun c4 => ?_) (fun c4 => ?_)
        · skip
          refine x_goN 1 (pc' := if (1 : Int32) = (0 : Int32) then 42 else 57) (ls' := [xA 7 2, xI x1, xI x2, xI x3, xI x4, xI x5, xU, xU, xU, xU]) (st' := []) (w' := w1) rfl ?_
          refine x_brF (by decide) ?_
          refine x_goN 7 (pc' := 65) (ls' := [xA 7 2, xI x1, xI x2, xI x3, xI x4, xI x5, xU, xU, xU, xU]) (st' := [xI (3 * x4), xI x3, xI x2, xI x1, xA 7 2]) (w' := w1) rfl ?_
          refine x_call (y := m_Md_against) (as := [xA 7 2, xI x1, xI x2, xI x3, xI (3 * x4)]) (rst := []) rfl [xA 7 2, xI x1, xI x2, xI x3, xI (3 * x4)] rfl ?_
          exact (((((h w1 ew1).1 c1).1 c2).1 c3).1 c4)
        · skip
          refine x_goN 1 (pc' := if (0 : Int32) = (0 : Int32) then 42 else 57) (ls' := [xA 7 2, xI x1, xI x2, xI x3, xI x4, xI x5, xU, xU, xU, xU]) (st' := []) (w' := w1) rfl ?_
          refine x_brT (by decide) ?_
          refine x_goN 3 (pc' := 48) (ls' := [xA 7 2, xI x1, xI x2, xI x3, xI x4, xI x5, xU, xU, xU, xU]) (st' := [xI 17, xI 10, xI x5]) (w' := w1) rfl ?_
          refine x_call (y := m_Md_within) (as := [xI x5, xI 10, xI 17]) (rst := []) rfl [xI x5, xI 10, xI 17] rfl ?_
          refine S_Md_within (fun c5 => ?_) (fun c5 => ?_)
          · skip
            refine x_goN 1 (pc' := if (1 : Int32) = (0 : Int32) then 54 else 57) (ls' := [xA 7 2, xI x1, xI x2, xI x3, xI x4, xI x5, xU, xU, xU, xU]) (st' := []) (w' := w1) rfl ?_
            refine x_brF (by decide) ?_
            refine x_goN 7 (pc' := 65) (ls' := [xA 7 2, xI x1, xI x2, xI x3, xI x4, xI x5, xU, xU, xU, xU]) (st' := [xI (3 * x4), xI x3, xI x2, xI x1, xA 7 2]) (w' := w1) rfl ?_
            refine x_call (y := m_Md_against) (as := [xA 7 2, xI x1, xI x2, xI x3, xI (3 * x4)]) (rst := []) rfl [xA 7 2, xI x1, xI x2, xI x3, xI (3 * x4)] rfl ?_
            exact ((((((h w1 ew1).1 c1).1 c2).1 c3).2 c4).1 c5)
          · skip
            refine x_goN 1 (pc' := if (0 : Int32) = (0 : Int32) then 54 else 57) (ls' := [xA 7 2, xI x1, xI x2, xI x3, xI x4, xI x5, xU, xU, xU, xU]) (st' := []) (w' := w1) rfl ?_
            refine x_brT (by decide) ?_
            refine x_goN 1 (pc' := 56) (ls' := [xA 7 2, xI x1, xI x2, xI x3, xI x4, xI x5, xU, xU, xU, xU]) (st' := [xI (-2)]) (w' := w1) rfl ?_
            exact x_ret (P := True) rfl trivial ((((((h w1 ew1).1 c1).1 c2).1 c3).2 c4).2 c5)
      · skip
        refine x_goN 1 (pc' := if (0 : Int32) = (0 : Int32) then 54 else 32) (ls' := [xA 7 2, xI x1, xI x2, xI x3, xI x4, xI x5, xU, xU, xU, xU]) (st' := []) (w' := w1) rfl ?_
        refine x_brT (by decide) ?_
        refine x_goN 1 (pc' := 56) (ls' := [xA 7 2, xI x1, xI x2, xI x3, xI x4, xI x5, xU, xU, xU, xU]) (st' := [xI (-2)]) (w' := w1) rfl ?_
        exact x_ret (P := True) rfl trivial ((((h w1 ew1).1 c1).1 c2).2 c3)
    · skip
      refine x_goN 1 (pc' := if (0 : Int32) = (0 : Int32) then 54 else 21) (ls' := [xA 7 2, xI x1, xI x2, xI x3, xI x4, xI x5, xU, xU, xU, xU]) (st' := []) (w' := w1) rfl ?_
      refine x_brT (by decide) ?_
      refine x_goN 1 (pc' := 56) (ls' := [xA 7 2, xI x1, xI x2, xI x3, xI x4, xI x5, xU, xU, xU, xU]) (st' := [xI (-2)]) (w' := w1) rfl ?_
      exact x_ret (P := True) rfl trivial (((h w1 ew1).1 c1).2 c2)
  · skip
    refine x_goN 1 (pc' := if (0 : Int32) = (0 : Int32) then 12 else 14) (ls' := [xA 7 2, xI x1, xI x2, xI x3, xI x4, xI x5, xU, xU, xU, xU]) (st' := []) (w' := w1) rfl ?_
    refine x_brT (by decide) ?_
    refine x_goN 1 (pc' := 13) (ls' := [xA 7 2, xI x1, xI x2, xI x3, xI x4, xI x5, xU, xU, xU, xU]) (st' := [xI (-1)]) (w' := w1) rfl ?_
    exact x_ret (P := True) rfl trivial ((h w1 ew1).2 c1)
theorem G_Md_day_68 {d : Nat} {x1 : Int32} {x2 : Int32} {x3 : Int32} {x4 : Int32} {x5 : Int32} {s0 : Int32} {w : xWd} {Q : xMV → xWd → Prop} (h : ((s0 = 0 → ((w 2 5 = 0 → Q (xI (-3)) w) ∧ (¬ (w 2 5 = 0) → xWp (d + 6) m_Md_day 95 [xA 7 2, xI x1, xI x2, xI x3, xI x4, xI x5, xI s0, xI 0, xU, xU] [] w Q))) ∧ (¬ (s0 = 0) → (∀ w1 : xWd, w1 = x_set w 2 0 s0 → Q (xI ((-10) - s0)) w1)))) : xWp (d + 6) m_Md_day 68 [xA 7 2, xI x1, xI x2, xI x3, xI x4, xI x5, xU, xU, xU, xU] [xI s0] w Q := by
  refine x_goN 3 (pc' := if s0 = 0 then 82 else 75) (ls' := [xA 7 2, xI x1, xI x2, xI x3, xI x4, xI x5, xI s0, xU, xU, xU]) (st' := []) (w' := w) rfl ?_
  refine x_br (fun c1 => ?_) (fun c1 => ?_)
  · skip
    refine x_goN 3 (pc' := if w 2 5 = 0 then 89 else 92) (ls' := [xA 7 2, xI x1, xI x2, xI x3, xI x4, xI x5, xI s0, xU, xU, xU]) (st' := []) (w' := w) rfl ?_
    refine x_br (fun c2 => ?_) (fun c2 => ?_)
    · skip
      refine x_goN 1 (pc' := 91) (ls' := [xA 7 2, xI x1, xI x2, xI x3, xI x4, xI x5, xI s0, xU, xU, xU]) (st' := [xI (-3)]) (w' := w) rfl ?_
      exact x_ret (P := True) rfl trivial ((h.1 c1).1 c2)
    · skip
      refine x_goN 2 (pc' := 95) (ls' := [xA 7 2, xI x1, xI x2, xI x3, xI x4, xI x5, xI s0, xI 0, xU, xU]) (st' := []) (w' := w) rfl ?_
      exact ((h.1 c1).2 c2)
  · skip
    refine x_goN 2 (pc' := 78) (ls' := [xA 7 2, xI x1, xI x2, xI x3, xI x4, xI x5, xI s0, xU, xU, xU]) (st' := [xI s0, xA 7 2]) (w' := w) rfl ?_
    refine x_call (y := m_Md_fails) (as := [xA 7 2, xI s0]) (rst := []) rfl [xA 7 2, xI s0] rfl ?_
    refine S_Md_fails (fun w1 ew1 => ?_)
    exact x_ret (P := True) rfl trivial ((h.2 c1) w1 ew1)
theorem G_Md_day_95 {d : Nat} {x1 : Int32} {x2 : Int32} {x3 : Int32} {x4 : Int32} {x5 : Int32} {x6 : Int32} {x7 : Int32} {w : xWd} {Q : xMV → xWd → Prop} (h : ((16 ≤ x7 → xWp (d + 5) m_Md_goDay 0 [xA 7 2, xI ((60 * x1) + x3), xI x4, xU, xU, xU, xU] [] w (fun a w' => xWp (d + 6) m_Md_day 134 [xA 7 2, xI x1, xI x2, xI x3, xI x4, xI x5, xI x6, xI x7, xU, xU] (x_pu a []) w' Q)) ∧ (¬ (16 ≤ x7) → (vp_in x7 16 ∧ (vp_in x7 16 ∧ ∀ w1 : xWd, w1 = x_set w 82 x7.toNatClampNeg (w 74 x7.toNatClampNeg) → xWp (d + 6) m_Md_day 95 [xA 7 2, xI x1, xI x2, xI x3, xI x4, xI x5, xI x6, xI (x7 + 1), xU, xU] [] w1 Q))))) : xWp (d + 6) m_Md_day 95 [xA 7 2, xI x1, xI x2, xI x3, xI x4, xI x5, xI x6, xI x7, xU, xU] [] w Q := by
  refine x_goN 3 (pc' := if 16 ≤ x7 then 122 else 102) (ls' := [xA 7 2, xI x1, xI x2, xI x3, xI x4, xI x5, xI x6, xI x7, xU, xU]) (st' := []) (w' := w) rfl ?_
  refine x_br (fun c1 => ?_) (fun c1 => ?_)
  · skip
    refine x_goN 7 (pc' := 131) (ls' := [xA 7 2, xI x1, xI x2, xI x3, xI x4, xI x5, xI x6, xI x7, xU, xU]) (st' := [xI x4, xI ((60 * x1) + x3), xA 7 2]) (w' := w) rfl ?_
    refine x_call (y := m_Md_goDay) (as := [xA 7 2, xI ((60 * x1) + x3), xI x4]) (rst := []) rfl [xA 7 2, xI ((60 * x1) + x3), xI x4, xU, xU, xU, xU] rfl ?_
    exact (h.1 c1)
  · skip
    refine x_goN 6 (pc' := 114) (ls' := [xA 7 2, xI x1, xI x2, xI x3, xI x4, xI x5, xI x6, xI x7, xU, xU]) (st' := [xI x7, xA 116 74, xI x7, xA 116 82]) (w' := w) rfl ?_
    refine x_ob (P := vp_in x7 16) (pc' := 115) (ls' := [xA 7 2, xI x1, xI x2, xI x3, xI x4, xI x5, xI x6, xI x7, xU, xU]) (st' := [xI (w 74 x7.toNatClampNeg), xI x7, xA 116 82]) (w' := w) rfl (h.2 c1).1 ?_
    refine x_obW (P := vp_in x7 16) (pc' := 116) (ls' := [xA 7 2, xI x1, xI x2, xI x3, xI x4, xI x5, xI x6, xI x7, xU, xU]) (st' := []) (w' := x_set w 82 x7.toNatClampNeg (w 74 x7.toNatClampNeg)) rfl (h.2 c1).2.1 (fun w1 ew1 => ?_)
    refine x_goN 2 (pc' := 95) (ls' := [xA 7 2, xI x1, xI x2, xI x3, xI x4, xI x5, xI x6, xI (x7 + 1), xU, xU]) (st' := []) (w' := w1) rfl ?_
    exact ((h.2 c1).2.2 w1 ew1)
theorem G_Md_day_134 {d : Nat} {x1 : Int32} {x2 : Int32} {x3 : Int32} {x4 : Int32} {x5 : Int32} {x6 : Int32} {x7 : Int32} {s0 : Int32} {w : xWd} {Q : xMV → xWd → Prop} (h : xWp (d + 5) m_Md_tellDay 0 [xA 7 2, xI x5] [] w (fun a w' => xWp (d + 6) m_Md_day 142 [xA 7 2, xI x1, xI x2, xI x3, xI x4, xI x5, xI x6, xI s0, xU, xU] (x_pu a []) w' Q)) : xWp (d + 6) m_Md_day 134 [xA 7 2, xI x1, xI x2, xI x3, xI x4, xI x5, xI x6, xI x7, xU, xU] [xI s0] w Q := by
  refine x_goN 3 (pc' := 139) (ls' := [xA 7 2, xI x1, xI x2, xI x3, xI x4, xI x5, xI x6, xI s0, xU, xU]) (st' := [xI x5, xA 7 2]) (w' := w) rfl ?_
  refine x_call (y := m_Md_tellDay) (as := [xA 7 2, xI x5]) (rst := []) rfl [xA 7 2, xI x5] rfl ?_
  exact h
theorem G_Md_day_142 {d : Nat} {x1 : Int32} {x2 : Int32} {x3 : Int32} {x4 : Int32} {x5 : Int32} {x6 : Int32} {x7 : Int32} {s0 : Int32} {w : xWd} {Q : xMV → xWd → Prop} (h : xWp (d + 6) m_Md_day 147 [xA 7 2, xI x1, xI x2, xI x3, xI x4, xI x5, xI x6, xI x7, xI s0, xI 0] [] w Q) : xWp (d + 6) m_Md_day 142 [xA 7 2, xI x1, xI x2, xI x3, xI x4, xI x5, xI x6, xI x7, xU, xU] [xI s0] w Q := by
  refine x_goN 3 (pc' := 147) (ls' := [xA 7 2, xI x1, xI x2, xI x3, xI x4, xI x5, xI x6, xI x7, xI s0, xI 0]) (st' := []) (w' := w) rfl ?_
  exact h
theorem G_Md_day_147 {d : Nat} {x1 : Int32} {x2 : Int32} {x3 : Int32} {x4 : Int32} {x5 : Int32} {x6 : Int32} {x7 : Int32} {x8 : Int32} {x9 : Int32} {w : xWd} {Q : xMV → xWd → Prop} (h : ((16 ≤ x9 → ((x5 = 1 → Q (xI x7) w) ∧ (¬ (x5 = 1) → ((x7 = (-9) → Q (xI x8) w) ∧ (¬ (x7 = (-9)) → Q (xI ((-100) - x7)) w))))) ∧ (¬ (16 ≤ x9) → (vp_in x9 16 ∧ (vp_in x9 16 ∧ ∀ w1 : xWd, w1 = x_set w 74 x9.toNatClampNeg (w 82 x9.toNatClampNeg) → xWp (d + 6) m_Md_day 147 [xA 7 2, xI x1, xI x2, xI x3, xI x4, xI x5, xI x6, xI x7, xI x8, xI (x9 + 1)] [] w1 Q))))) : xWp (d + 6) m_Md_day 147 [xA 7 2, xI x1, xI x2, xI x3, xI x4, xI x5, xI x6, xI x7, xI x8, xI x9] [] w Q := by
  refine x_goN 3 (pc' := if 16 ≤ x9 then 174 else 154) (ls' := [xA 7 2, xI x1, xI x2, xI x3, xI x4, xI x5, xI x6, xI x7, xI x8, xI x9]) (st' := []) (w' := w) rfl ?_
  refine x_br (fun c1 => ?_) (fun c1 => ?_)
  · skip
    refine x_goN 3 (pc' := if x5 = 1 then 180 else 185) (ls' := [xA 7 2, xI x1, xI x2, xI x3, xI x4, xI x5, xI x6, xI x7, xI x8, xI x9]) (st' := []) (w' := w) rfl ?_
    refine x_br (fun c2 => ?_) (fun c2 => ?_)
    · skip
      refine x_goN 2 (pc' := 202) (ls' := [xA 7 2, xI x1, xI x2, xI x3, xI x4, xI x5, xI x6, xI x7, xI x8, xI x9]) (st' := [xI x7]) (w' := w) rfl ?_
      exact x_ret (P := True) rfl trivial ((h.1 c1).1 c2)
    · skip
      refine x_goN 3 (pc' := if x7 = (-9) then 192 else 197) (ls' := [xA 7 2, xI x1, xI x2, xI x3, xI x4, xI x5, xI x6, xI x7, xI x8, xI x9]) (st' := []) (w' := w) rfl ?_
      refine x_br (fun c3 => ?_) (fun c3 => ?_)
      · skip
        refine x_goN 2 (pc' := 202) (ls' := [xA 7 2, xI x1, xI x2, xI x3, xI x4, xI x5, xI x6, xI x7, xI x8, xI x9]) (st' := [xI x8]) (w' := w) rfl ?_
        exact x_ret (P := True) rfl trivial (((h.1 c1).2 c2).1 c3)
      · skip
        refine x_goN 3 (pc' := 202) (ls' := [xA 7 2, xI x1, xI x2, xI x3, xI x4, xI x5, xI x6, xI x7, xI x8, xI x9]) (st' := [xI ((-100) - x7)]) (w' := w) rfl ?_
        exact x_ret (P := True) rfl trivial (((h.1 c1).2 c2).2 c3)
  · skip
    refine x_goN 6 (pc' := 166) (ls' := [xA 7 2, xI x1, xI x2, xI x3, xI x4, xI x5, xI x6, xI x7, xI x8, xI x9]) (st' := [xI x9, xA 116 82, xI x9, xA 116 74]) (w' := w) rfl ?_
    refine x_ob (P := vp_in x9 16) (pc' := 167) (ls' := [xA 7 2, xI x1, xI x2, xI x3, xI x4, xI x5, xI x6, xI x7, xI x8, xI x9]) (st' := [xI (w 82 x9.toNatClampNeg), xI x9, xA 116 74]) (w' := w) rfl (h.2 c1).1 ?_
    refine x_obW (P := vp_in x9 16) (pc' := 168) (ls' := [xA 7 2, xI x1, xI x2, xI x3, xI x4, xI x5, xI x6, xI x7, xI x8, xI x9]) (st' := []) (w' := x_set w 74 x9.toNatClampNeg (w 82 x9.toNatClampNeg)) rfl (h.2 c1).2.1 (fun w1 ew1 => ?_)
    refine x_goN 2 (pc' := 147) (ls' := [xA 7 2, xI x1, xI x2, xI x3, xI x4, xI x5, xI x6, xI x7, xI x8, xI (x9 + 1)]) (st' := []) (w' := w1) rfl ?_
    exact ((h.2 c1).2.2 w1 ew1)
theorem L_Md_day1 {d : Nat} {x1 x2 x3 x4 x5 x6 : Int32} {w0 : xWd} {Q : xMV → xWd → Prop} (h : ∀ w', (∀ a, a ≠ 82 → w' a = w0 a) → (∀ j, j < 16 → w' 82 j = w0 74 j) → xWp (d + 6) m_Md_day 95 [xA 7 2, xI x1, xI x2, xI x3, xI x4, xI x5, xI x6, xI (nI 16), xU, xU] [] w' Q) : ∀ (m j : Nat) (w : xWd), j + m = 16 → (∀ a, a ≠ 82 → w a = w0 a) → (∀ i, i < j → w 82 i = w0 74 i) → xWp (d + 6) m_Md_day 95 [xA 7 2, xI x1, xI x2, xI x3, xI x4, xI x5, xI x6, xI (nI j), xU, xU] [] w Q := by
  intro m
  induction m with
  | zero =>
    intro j w hj hf hv
    have e : j = 16 := by omega
    subst e
    exact h w hf hv
  | succ m ih =>
    intro j w hj hf hv
    refine G_Md_day_95 ⟨fun c => absurd ((z_le (a := 16) (by decide) (by omega)).mp c) (by omega), fun _ => ⟨z_in (by omega) (by decide), z_in (by omega) (by decide), fun w1 e1 => ?_⟩⟩
    rw [z_cl' (by omega)] at e1
    rw [nI_1]
    refine ih (j + 1) w1 (by omega) (fun a ha => by rw [e1, x_set_o ha, hf a ha]) (fun i hi => ?_)
    rw [e1, x_set_s]
    by_cases e : i = j
    · rw [e, upd_s, hf 74 (by decide)]
    · rw [upd_o e]; exact hv i (by omega)
theorem L_Md_day2 {d : Nat} {x1 x2 x3 x4 x5 x6 x7 x8 : Int32} {w0 : xWd} {Q : xMV → xWd → Prop} (h : ∀ w', (∀ a, a ≠ 74 → w' a = w0 a) → (∀ j, j < 16 → w' 74 j = w0 82 j) → xWp (d + 6) m_Md_day 147 [xA 7 2, xI x1, xI x2, xI x3, xI x4, xI x5, xI x6, xI x7, xI x8, xI (nI 16)] [] w' Q) : ∀ (m j : Nat) (w : xWd), j + m = 16 → (∀ a, a ≠ 74 → w a = w0 a) → (∀ i, i < j → w 74 i = w0 82 i) → xWp (d + 6) m_Md_day 147 [xA 7 2, xI x1, xI x2, xI x3, xI x4, xI x5, xI x6, xI x7, xI x8, xI (nI j)] [] w Q := by
  intro m
  induction m with
  | zero =>
    intro j w hj hf hv
    have e : j = 16 := by omega
    subst e
    exact h w hf hv
  | succ m ih =>
    intro j w hj hf hv
    refine G_Md_day_147 ⟨fun c => absurd ((z_le (a := 16) (by decide) (by omega)).mp c) (by omega), fun _ => ⟨z_in (by omega) (by decide), z_in (by omega) (by decide), fun w1 e1 => ?_⟩⟩
    rw [z_cl' (by omega)] at e1
    rw [nI_1]
    refine ih (j + 1) w1 (by omega) (fun a ha => by rw [e1, x_set_o ha, hf a ha]) (fun i hi => ?_)
    rw [e1, x_set_s]
    by_cases e : i = j
    · rw [e, upd_s, hf 82 (by decide)]
    · rw [upd_o e]; exact hv i (by omega)
theorem sM_day {s : xS} {w w' : xWd} (h : sM s w) (hf : ∀ a, a ≠ 2 → a ≠ 74 → a ≠ 81 → a ≠ 82 → a ≠ 83 → w' a = w a) (h2 : ∀ j, (j < 19 ∨ 21 < j) → w' 2 j = w 2 j) (hu : ∀ j, j < 16 → w' 74 j = w 74 j) : sM s w' ∧ fM w w' := by
  obtain ⟨h1, h2', h3, h4, h5, h6⟩ := h
  refine ⟨⟨h1, fun k hk => ?_, ⟨by rw [h2 5 (by omega)]; exact h3.1, fun l hl => ?_⟩, ?_, by rw [h2 1 (by omega)]; exact h5, by rw [h2 0 (by omega)]; exact h6⟩, fun a a1 a2 => hf a a1 (by omega) (by omega) (by omega) (by omega)⟩
  · unfold mSh; rw [hf 67 (by omega) (by omega) (by omega) (by omega) (by omega), hf 68 (by omega) (by omega) (by omega) (by omega) (by omega), hf 69 (by omega) (by omega) (by omega) (by omega) (by omega)]; exact h2' k hk
  · obtain ⟨f1, f2, f3, f4⟩ := h3.2 l hl
    have h8 := h1.2.1.1.1
    have hm2 := (h1.2.1.2 l hl).2.1
    rw [hf 71 (by omega) (by omega) (by omega) (by omega) (by omega), hf 72 (by omega) (by omega) (by omega) (by omega) (by omega), hf 73 (by omega) (by omega) (by omega) (by omega) (by omega)]
    exact ⟨f1, f2, f3, fun i hi => by rw [hu _ (by omega)]; exact f4 i hi⟩
  · unfold mRd; rw [h2 26 (by omega), hf 92 (by omega) (by omega) (by omega) (by omega) (by omega), hf 93 (by omega) (by omega) (by omega) (by omega) (by omega)]; exact h4

