/-! DAY: the call -/
theorem vFa_in {r n m : Nat} {l x : Int32} (hm : m ≤ 1000) (h : vFa r n l x (nI m) = 0) : 0 < r ∧ ∃ i, x = nI i ∧ i + m ≤ n := by
  unfold vFa at h
  by_cases e : r = 0
  · rw [if_pos e] at h; exact absurd h (by decide)
  · rw [if_neg e] at h
    by_cases e2 : l = nI (r - 1)
    · rw [if_pos e2, nI_toInt (by omega), if_neg (by omega)] at h
      by_cases e3 : 0 ≤ x.toInt ∧ (m : Int) + x.toInt ≤ n
      · obtain ⟨i, a, b, -⟩ := z_of e3.1
        exact ⟨by omega, i, a, by omega⟩
      · rw [if_neg e3] at h; exact absurd h (by decide)
    · rw [if_neg e2] at h; exact absurd h (by decide)
theorem G_Vp_day_0 {d : Nat} {x1 : Int32} {x2 : Int32} {x3 : Int32} {x4 : Int32} {x5 : Int32} {w : xWd} {Q : xMV → xWd → Prop} (h : (∀ w1 : xWd, w1 = x_set w 1 8 0 → ((p_rg x1 0 3 → ((p_rg x2 0 2 → ((x4 < 0 → Q (xI (-2)) w1) ∧ (¬ (x4 < 0) → ((20 < x4 → Q (xI (-2)) w1) ∧ (¬ (20 < x4) → ((p_q4 x5 → (vp_in x1 4 ∧ xWp (d + 5) m_Sh_faultOfCells 0 [xA 3 (32 * 33 + x1.toNatClampNeg + 1), xI x2, xI x3, xI (3 * x4)] [] w1 (fun a w' => xWp (d + 6) m_Vp_day 59 [xA 6 1, xI x1, xI x2, xI x3, xI x4, xI x5, xU, xU] (x_pu a []) w' Q))) ∧ (¬ (p_q4 x5) → Q (xI (-2)) w1))))))) ∧ (¬ (p_rg x2 0 2) → Q (xI (-2)) w1))) ∧ (¬ (p_rg x1 0 3) → Q (xI (-1)) w1)))) : xWp (d + 6) m_Vp_day 0 [xA 6 1, xI x1, xI x2, xI x3, xI x4, xI x5, xU, xU] [] w Q := by
  refine x_goN 2 (pc' := 2) (ls' := [xA 6 1, xI x1, xI x2, xI x3, xI x4, xI x5, xU, xU]) (st' := [xI 0, xA 6 1]) (w' := w) rfl ?_
  refine x_goW (pc' := 5) (ls' := [xA 6 1, xI x1, xI x2, xI x3, xI x4, xI x5, xU, xU]) (st' := []) (w' := x_set w 1 8 0) rfl (fun w1 ew1 => ?_)
  refine x_goN 1 (pc' := 6) (ls' := [xA 6 1, xI x1, xI x2, xI x3, xI x4, xI x5, xU, xU]) (st' := [xI x1]) (w' := w1) rfl ?_
  refine x_call (y := m_Vp_isSheet) (as := [xI x1]) (rst := []) rfl [xI x1] rfl ?_
  refine S_Vp_isSheet (fun c1 => ?_) (fun c1 => ?_)
  · skip
    refine x_goN 1 (pc' := if (1 : Int32) = (0 : Int32) then 12 else 14) (ls' := [xA 6 1, xI x1, xI x2, xI x3, xI x4, xI x5, xU, xU]) (st' := []) (w' := w1) rfl ?_
    refine x_brF (by decide) ?_
    refine x_goN 1 (pc' := 15) (ls' := [xA 6 1, xI x1, xI x2, xI x3, xI x4, xI x5, xU, xU]) (st' := [xI x2]) (w' := w1) rfl ?_
    refine x_call (y := m_Vp_isLane) (as := [xI x2]) (rst := []) rfl [xI x2] rfl ?_
    refine S_Vp_isLane (fun c2 => ?_) (fun c2 => ?_)
    · skip
      refine x_goN 1 (pc' := if (1 : Int32) = (0 : Int32) then 41 else 21) (ls' := [xA 6 1, xI x1, xI x2, xI x3, xI x4, xI x5, xU, xU]) (st' := []) (w' := w1) rfl ?_
      refine x_brF (by decide) ?_
      refine x_goN 2 (pc' := if x4 < 0 then 41 else 26) (ls' := [xA 6 1, xI x1, xI x2, xI x3, xI x4, xI x5, xU, xU]) (st' := []) (w' := w1) rfl ?_
      refine x_br (fun c3 => ?_) (fun c3 => ?_)
      · skip
        refine x_goN 1 (pc' := 43) (ls' := [xA 6 1, xI x1, xI x2, xI x3, xI x4, xI x5, xU, xU]) (st' := [xI (-2)]) (w' := w1) rfl ?_
        exact x_ret (P := True) rfl trivial ((((h w1 ew1).1 c1).1 c2).1 c3)
      · skip
        refine x_goN 3 (pc' := if 20 < x4 then 41 else 33) (ls' := [xA 6 1, xI x1, xI x2, xI x3, xI x4, xI x5, xU, xU]) (st' := []) (w' := w1) rfl ?_
        refine x_br (fun c4 => ?_) (fun c4 => ?_)
        · skip
          refine x_goN 1 (pc' := 43) (ls' := [xA 6 1, xI x1, xI x2, xI x3, xI x4, xI x5, xU, xU]) (st' := [xI (-2)]) (w' := w1) rfl ?_
          exact x_ret (P := True) rfl trivial (((((h w1 ew1).1 c1).1 c2).2 c3).1 c4)
        · skip
          refine x_goN 1 (pc' := 35) (ls' := [xA 6 1, xI x1, xI x2, xI x3, xI x4, xI x5, xU, xU]) (st' := [xI x5]) (w' := w1) rfl ?_
          refine x_call (y := m_Vp_isDayQuestion) (as := [xI x5]) (rst := []) rfl [xI x5] rfl ?_
          refine S_Vp_isDayQuestion (fun c5 => ?_) (fun c5 => ?_)
          · skip
            refine x_goN 1 (pc' := if (1 : Int32) = (0 : Int32) then 41 else 44) (ls' := [xA 6 1, xI x1, xI x2, xI x3, xI x4, xI x5, xU, xU]) (st' := []) (w' := w1) rfl ?_
            refine x_brF (by decide) ?_
            refine x_goN 3 (pc' := 49) (ls' := [xA 6 1, xI x1, xI x2, xI x3, xI x4, xI x5, xU, xU]) (st' := [xI x1, xA 50 33]) (w' := w1) rfl ?_
            refine x_ob (P := vp_in x1 4) (pc' := 50) (ls' := [xA 6 1, xI x1, xI x2, xI x3, xI x4, xI x5, xU, xU]) (st' := [xA 3 (32 * 33 + x1.toNatClampNeg + 1)]) (w' := w1) rfl ((((((h w1 ew1).1 c1).1 c2).2 c3).2 c4).1 c5).1 ?_
            refine x_goN 5 (pc' := 56) (ls' := [xA 6 1, xI x1, xI x2, xI x3, xI x4, xI x5, xU, xU]) (st' := [xI (3 * x4), xI x3, xI x2, xA 3 (32 * 33 + x1.toNatClampNeg + 1)]) (w' := w1) rfl ?_
            refine x_call (y := m_Sh_faultOfCells) (as := [xA 3 (32 * 33 + x1.toNatClampNeg + 1), xI x2, xI x3, xI (3 * x4)]) (rst := []) rfl [xA 3 (32 * 33 + x1.toNatClampNeg + 1), xI x2, xI x3, xI (3 * x4)] rfl ?_
            exact ((((((h w1 ew1).1 c1).1 c2).2 c3).2 c4).1 c5).2
          · skip
            refine x_goN 1 (pc' := if (0 : Int32) = (0 : Int32) then 41 else 44) (ls' := [xA 6 1, xI x1, xI x2, xI x3, xI x4, xI x5, xU, xU]) (st' := []) (w' := w1) rfl ?_
            refine x_brT (by decide) ?_
            refine x_goN 1 (pc' := 43) (ls' := [xA 6 1, xI x1, xI x2, xI x3, xI x4, xI x5, xU, xU]) (st' := [xI (-2)]) (w' := w1) rfl ?_
            exact x_ret (P := True) rfl trivial ((((((h w1 ew1).1 c1).1 c2).2 c3).2 c4).2 c5)
    · skip
      refine x_goN 1 (pc' := if (0 : Int32) = (0 : Int32) then 41 else 21) (ls' := [xA 6 1, xI x1, xI x2, xI x3, xI x4, xI x5, xU, xU]) (st' := []) (w' := w1) rfl ?_
      refine x_brT (by decide) ?_
      refine x_goN 1 (pc' := 43) (ls' := [xA 6 1, xI x1, xI x2, xI x3, xI x4, xI x5, xU, xU]) (st' := [xI (-2)]) (w' := w1) rfl ?_
      exact x_ret (P := True) rfl trivial (((h w1 ew1).1 c1).2 c2)
  · skip
    refine x_goN 1 (pc' := if (0 : Int32) = (0 : Int32) then 12 else 14) (ls' := [xA 6 1, xI x1, xI x2, xI x3, xI x4, xI x5, xU, xU]) (st' := []) (w' := w1) rfl ?_
    refine x_brT (by decide) ?_
    refine x_goN 1 (pc' := 13) (ls' := [xA 6 1, xI x1, xI x2, xI x3, xI x4, xI x5, xU, xU]) (st' := [xI (-1)]) (w' := w1) rfl ?_
    exact x_ret (P := True) rfl trivial ((h w1 ew1).2 c1)
theorem G_Vp_day_59 {d : Nat} {x1 : Int32} {x2 : Int32} {x3 : Int32} {x4 : Int32} {x5 : Int32} {s0 : Int32} {w : xWd} {Q : xMV → xWd → Prop} (h : ((s0 = 0 → ((w 34 8 = 0 → Q (xI (-3)) w) ∧ (¬ (w 34 8 = 0) → (vp_in x1 4 ∧ xWp (d + 5) m_Vp_firstWrong 0 [xA 6 1, xA 3 (32 * 33 + x1.toNatClampNeg + 1), xI x3, xI x4, xU, xU, xU, xU, xU] [] w (fun a w' => xWp (d + 6) m_Vp_day 99 [xA 6 1, xI x1, xI x2, xI x3, xI x4, xI x5, xI s0, xU] (x_pu a []) w' Q))))) ∧ (¬ (s0 = 0) → (∀ w1 : xWd, w1 = x_set w 1 8 s0 → Q (xI ((-10) - s0)) w1)))) : xWp (d + 6) m_Vp_day 59 [xA 6 1, xI x1, xI x2, xI x3, xI x4, xI x5, xU, xU] [xI s0] w Q := by
  refine x_goN 3 (pc' := if s0 = 0 then 73 else 66) (ls' := [xA 6 1, xI x1, xI x2, xI x3, xI x4, xI x5, xI s0, xU]) (st' := []) (w' := w) rfl ?_
  refine x_br (fun c1 => ?_) (fun c1 => ?_)
  · skip
    refine x_goN 4 (pc' := if w 34 8 = 0 then 83 else 86) (ls' := [xA 6 1, xI x1, xI x2, xI x3, xI x4, xI x5, xI s0, xU]) (st' := []) (w' := w) rfl ?_
    refine x_br (fun c2 => ?_) (fun c2 => ?_)
    · skip
      refine x_goN 1 (pc' := 85) (ls' := [xA 6 1, xI x1, xI x2, xI x3, xI x4, xI x5, xI s0, xU]) (st' := [xI (-3)]) (w' := w) rfl ?_
      exact x_ret (P := True) rfl trivial ((h.1 c1).1 c2)
    · skip
      refine x_goN 4 (pc' := 92) (ls' := [xA 6 1, xI x1, xI x2, xI x3, xI x4, xI x5, xI s0, xU]) (st' := [xI x1, xA 50 33, xA 6 1]) (w' := w) rfl ?_
      refine x_ob (P := vp_in x1 4) (pc' := 93) (ls' := [xA 6 1, xI x1, xI x2, xI x3, xI x4, xI x5, xI s0, xU]) (st' := [xA 3 (32 * 33 + x1.toNatClampNeg + 1), xA 6 1]) (w' := w) rfl ((h.1 c1).2 c2).1 ?_
      refine x_goN 2 (pc' := 96) (ls' := [xA 6 1, xI x1, xI x2, xI x3, xI x4, xI x5, xI s0, xU]) (st' := [xI x4, xI x3, xA 3 (32 * 33 + x1.toNatClampNeg + 1), xA 6 1]) (w' := w) rfl ?_
      refine x_call (y := m_Vp_firstWrong) (as := [xA 6 1, xA 3 (32 * 33 + x1.toNatClampNeg + 1), xI x3, xI x4]) (rst := []) rfl [xA 6 1, xA 3 (32 * 33 + x1.toNatClampNeg + 1), xI x3, xI x4, xU, xU, xU, xU, xU] rfl ?_
      exact ((h.1 c1).2 c2).2
  · skip
    refine x_goN 2 (pc' := 69) (ls' := [xA 6 1, xI x1, xI x2, xI x3, xI x4, xI x5, xI s0, xU]) (st' := [xI s0, xA 6 1]) (w' := w) rfl ?_
    refine x_call (y := m_Vp_faulty) (as := [xA 6 1, xI s0]) (rst := []) rfl [xA 6 1, xI s0] rfl ?_
    refine S_Vp_faulty (fun w1 ew1 => ?_)
    exact x_ret (P := True) rfl trivial ((h.2 c1) w1 ew1)
theorem G_Vp_day_99 {d : Nat} {x1 : Int32} {x2 : Int32} {x3 : Int32} {x4 : Int32} {x5 : Int32} {x6 : Int32} {s0 : Int32} {w : xWd} {Q : xMV → xWd → Prop} (h : ((x5 = 1 → Q (xI s0) w) ∧ (¬ (x5 = 1) → ((s0 = (-9) → xWp (d + 5) m_Vp_ofTrial 0 [xA 6 1, xI x5] [] w (fun a w' => xWp (d + 6) m_Vp_day 123 [xA 6 1, xI x1, xI x2, xI x3, xI x4, xI x5, xI x6, xI s0] (x_pu a []) w' Q)) ∧ (¬ (s0 = (-9)) → Q (xI ((-100) - s0)) w))))) : xWp (d + 6) m_Vp_day 99 [xA 6 1, xI x1, xI x2, xI x3, xI x4, xI x5, xI x6, xU] [xI s0] w Q := by
  refine x_goN 4 (pc' := if x5 = 1 then 107 else 110) (ls' := [xA 6 1, xI x1, xI x2, xI x3, xI x4, xI x5, xI x6, xI s0]) (st' := []) (w' := w) rfl ?_
  refine x_br (fun c1 => ?_) (fun c1 => ?_)
  · skip
    refine x_goN 1 (pc' := 109) (ls' := [xA 6 1, xI x1, xI x2, xI x3, xI x4, xI x5, xI x6, xI s0]) (st' := [xI s0]) (w' := w) rfl ?_
    exact x_ret (P := True) rfl trivial (h.1 c1)
  · skip
    refine x_goN 3 (pc' := if s0 = (-9) then 117 else 126) (ls' := [xA 6 1, xI x1, xI x2, xI x3, xI x4, xI x5, xI x6, xI s0]) (st' := []) (w' := w) rfl ?_
    refine x_br (fun c2 => ?_) (fun c2 => ?_)
    · skip
      refine x_goN 2 (pc' := 120) (ls' := [xA 6 1, xI x1, xI x2, xI x3, xI x4, xI x5, xI x6, xI s0]) (st' := [xI x5, xA 6 1]) (w' := w) rfl ?_
      refine x_call (y := m_Vp_ofTrial) (as := [xA 6 1, xI x5]) (rst := []) rfl [xA 6 1, xI x5] rfl ?_
      exact ((h.2 c1).1 c2)
    · skip
      refine x_goN 3 (pc' := 131) (ls' := [xA 6 1, xI x1, xI x2, xI x3, xI x4, xI x5, xI x6, xI s0]) (st' := [xI ((-100) - s0)]) (w' := w) rfl ?_
      exact x_ret (P := True) rfl trivial ((h.2 c1).2 c2)
theorem G_Vp_day_123 {d : Nat} {x1 : Int32} {x2 : Int32} {x3 : Int32} {x4 : Int32} {x5 : Int32} {x6 : Int32} {x7 : Int32} {s0 : Int32} {w : xWd} {Q : xMV → xWd → Prop} (h : Q (xI s0) w) : xWp (d + 6) m_Vp_day 123 [xA 6 1, xI x1, xI x2, xI x3, xI x4, xI x5, xI x6, xI x7] [xI s0] w Q := by
  refine x_goN 1 (pc' := 131) (ls' := [xA 6 1, xI x1, xI x2, xI x3, xI x4, xI x5, xI x6, xI x7]) (st' := [xI s0]) (w' := w) rfl ?_
  exact x_ret (P := True) rfl trivial h
noncomputable def dAns (s : xS) (q i n : Nat) (x : Int32) : Int32 := if x = 1 then (dGo (fun j => s_c s q (i + j)) n 0 (s_T s)).1 else if (dGo (fun j => s_c s q (i + j)) n 0 (s_T s)).1 = -9 then tD (dGo (fun j => s_c s q (i + j)) n 0 (s_T s)).2 x else (-100) - (dGo (fun j => s_c s q (i + j)) n 0 (s_T s)).1
theorem C_day {q i n : Nat} {s : xS} {w : xWd} {Q : xMV → xWd → Prop} {x2 x5 : Int32} (h : sC s w) (hq : q < 4) (hr : 0 < s_r s q) (hi : i + 3 * n ≤ s_n s q) (hx : (0 ≤ x5.toInt ∧ x5.toInt ≤ 4) ∨ (10 ≤ x5.toInt ∧ x5.toInt ≤ 17)) (hn : tn (s_T s) ≠ 0) (K : ∀ w', sC s w' → fC w w' → Q (xI (dAns s q i n x5)) w') : xWp 6 m_Vp_day 59 [xA 6 1, xI (nI q), xI x2, xI (nI i), xI (nI n), xI x5, xU, xU] [xI 0] w Q := by
  have h8 := s_n8 h.1
  refine G_Vp_day_59 ⟨fun _ => ?_, fun c => absurd rfl c⟩
  rw [sC_n h, z_ad hq]
  refine ⟨fun c => absurd ((z_eq (b := 0) (by omega) (by decide)).mp c) hn, fun _ => ⟨z_in hq (by decide), ?_⟩⟩
  refine G_Vp_firstWrong_0 (S_Tr_becomeLike (by decide) (by decide) (by decide) (sC_R h) (fun w1 hR1 hf1 => ?_))
  refine G_Vp_firstWrong_11 (L_Vp_firstWrong h hq hr hi n 0 w1 (s_T s) (Nat.zero_add _) hR1 hf1 (fun w2 hR2 hf2 => ?_))
  have hC2 := sC_35 h hf2
  unfold dAns at K
  refine G_Vp_day_99 ⟨fun c => ?_, fun c => ⟨fun c9 => ?_, fun c9 => ?_⟩⟩
  · rw [if_pos c] at K
    exact K w2 hC2.1 hC2.2
  · rw [if_neg c, if_pos c9] at K
    refine S_Vp_ofTrial hR2 hx c (fun w3 g3 => G_Vp_day_123 ?_)
    exact K w3 (sC_fS hC2.1 (fun a ha => g3 a (by omega) (by omega) (by omega))) (fC_tr hC2.2 (fun a ha => g3 a (by omega) (by omega) (by omega)))
  · rw [if_neg c, if_neg c9] at K
    exact K w2 hC2.1 hC2.2
theorem M_day {q i n : Nat} {s : xS} {w : xWd} {Q : xMV → xWd → Prop} {x2 x5 : Int32} (h : sM s w) (hq : q < 4) (hi : i + 3 * n ≤ 60) (hx : (0 ≤ x5.toInt ∧ x5.toInt ≤ 4) ∨ (10 ≤ x5.toInt ∧ x5.toInt ≤ 17)) (hn : tn (s_T s) ≠ 0) (K : ∀ w', sM s w' → fM w w' → Q (xI (dAns s q i n x5)) w') : xWp 6 m_Md_day 68 [xA 7 2, xI (nI q), xI x2, xI (nI i), xI (nI n), xI x5, xU, xU, xU, xU] [xI 0] w Q := by
  have h8 := s_n8 h.1
  refine G_Md_day_68 ⟨fun _ => ?_, fun c => absurd rfl c⟩
  rw [sM_n h]
  refine ⟨fun c => absurd ((z_eq (b := 0) (by omega) (by decide)).mp c) hn, fun _ => ?_⟩
  refine L_Md_day1 (d := 0) (w0 := w) (fun w1 f1 v1 => ?_) 16 0 w rfl (fun _ _ => rfl) (fun i hi => absurd hi (Nat.not_lt_zero _))
  refine G_Md_day_95 ⟨fun _ => ?_, fun c => absurd (by decide) c⟩
  rw [z_60]
  have h1 : sM s w1 := (sM_day h (fun a _ _ _ a4 _ => f1 a a4) (fun j _ => by rw [f1 2 (by decide)]) (fun j _ => by rw [f1 74 (by decide)])).1
  refine G_Md_goDay_0 (L_Md_goDay h1 hq hi n 0 w1 (s_T s) (Nat.zero_add _) (sM_S h1) (fun _ _ => rfl) (fun w2 hS2 f2 => ?_))
  refine G_Md_day_134 (S_Md_tellDay hS2 hx (fun w3 r hr f3 => ?_))
  refine G_Md_day_142 (L_Md_day2 (d := 0) (w0 := w3) (fun w4 f4 v4 => ?_) 16 0 w3 rfl (fun _ _ => rfl) (fun i hi => absurd hi (Nat.not_lt_zero _)))
  have hfin := sM_day (w' := w4) h (fun a a1 a2 a3 a4 a5 => by rw [f4 a a2, f3.1 a a1 a3 a5, f2 a a2, f1 a a4]) (fun j hj => by rw [f4 2 (by decide), f3.2 j hj, f2 2 (by decide), f1 2 (by decide)]) (fun j hj => by rw [v4 j hj, f3.1 82 (by decide) (by decide) (by decide), f2 82 (by decide), v1 j hj])
  unfold dAns at K
  refine G_Md_day_147 ⟨fun _ => ⟨fun c => ?_, fun c => ⟨fun c9 => ?_, fun c9 => ?_⟩⟩, fun c => absurd (by decide) c⟩
  · rw [if_pos c] at K
    exact K w4 hfin.1 hfin.2
  · rw [if_neg c, if_pos c9, ← hr c] at K
    exact K w4 hfin.1 hfin.2
  · rw [if_neg c, if_neg c9] at K
    exact K w4 hfin.1 hfin.2
theorem O_day (s : xS) (x1 x2 x3 x4 x5 : Int32) : oB m_Vp_day [xA 6 1, xI x1, xI x2, xI x3, xI x4, xI x5, xU, xU] m_Md_day [xA 7 2, xI x1, xI x2, xI x3, xI x4, xI x5, xU, xU, xU, xU] s := by
  have e20 : p_wi x4 0 20 ↔ 0 ≤ x4.toInt ∧ x4.toInt ≤ 20 := by unfold p_wi; rw [e_l0, e_l20]
  have e04 : p_wi x5 0 4 ↔ 0 ≤ x5.toInt ∧ x5.toInt ≤ 4 := by unfold p_wi; rw [e_l0, e_l4]
  have e1017 : p_wi x5 10 17 ↔ 10 ≤ x5.toInt ∧ x5.toInt ≤ 17 := by unfold p_wi; rw [e_l10, e_l17]
  have eq4 : p_q4 x5 ↔ (0 ≤ x5.toInt ∧ x5.toInt ≤ 4) ∨ (10 ≤ x5.toInt ∧ x5.toInt ≤ 17) := Iff.rfl
  have lt0 : x4 < 0 ↔ x4.toInt < 0 := by rw [fa_lt, e_l0]
  have lt20 : 20 < x4 ↔ 20 < x4.toInt := by rw [fa_lt, e_l20]
  by_cases hp : p_rg x1 0 3
  · by_cases hl : p_rg x2 0 2
    · by_cases hn : 0 ≤ x4.toInt ∧ x4.toInt ≤ 20
      · by_cases hq : (0 ≤ x5.toInt ∧ x5.toInt ≤ 4) ∨ (10 ≤ x5.toInt ∧ x5.toInt ≤ 17)
        · obtain ⟨q, hq4, rfl⟩ := rg3.mp hp
          obtain ⟨n, rfl, en, -⟩ := z_of hn.1
          have hn20 : n ≤ 20 := by omega
          have hin : vp_in (nI q) 4 := z_in hq4 (by decide)
          have e3n : (3 : Int32) * nI n = nI (3 * n) := pk_mul 3 n
          have hC : ∀ (w : xWd) (Q : xMV → xWd → Prop), sC s w → (∀ w1, sC (uF s 0) w1 → fC w w1 → xWp 6 m_Vp_day 59 [xA 6 1, xI (nI q), xI x2, xI x3, xI (nI n), xI x5, xU, xU] [xI (nI (vFa (s_r s q) (s_n s q) x2 x3 (nI (3 * n))))] w1 Q) → xWp 6 m_Vp_day 0 [xA 6 1, xI (nI q), xI x2, xI x3, xI (nI n), xI x5, xU, xU] [] w Q := by
            intro w Q h K
            have hb := h.1.1 q hq4
            refine G_Vp_day_0 (fun w1 e1 => ?_)
            have g1 := sC_f h e1
            rw [z_ad hq4, e3n, lt0, lt20, eq4]
            exact ⟨fun _ => ⟨fun _ => ⟨fun c => by omega, fun _ => ⟨fun c => by omega, fun _ => ⟨fun _ => ⟨hin, S_Sh_faultOfCells (g1.1.2.1 q hq4) hb.1 hb.2 (K w1 g1.1 g1.2)⟩, fun c => absurd hq c⟩⟩⟩, fun c => absurd hl c⟩, fun c => absurd hp c⟩
          have hM : ∀ (w : xWd) (Q : xMV → xWd → Prop), sM s w → (∀ w1, sM (uF s 0) w1 → fM w w1 → xWp 6 m_Md_day 68 [xA 7 2, xI (nI q), xI x2, xI x3, xI (nI n), xI x5, xU, xU, xU, xU] [xI (nI (vFa (s_r s q) (s_n s q) x2 x3 (nI (3 * n))))] w1 Q) → xWp 6 m_Md_day 0 [xA 7 2, xI (nI q), xI x2, xI x3, xI (nI n), xI x5, xU, xU, xU, xU] [] w Q := by
            intro w Q h K
            have hb := h.1.1 q hq4
            refine G_Md_day_0 (fun w1 e1 => ?_)
            have g1 := sM_f h e1
            have K' : xWp 5 m_Md_against 0 [xA 7 2, xI (nI q), xI x2, xI x3, xI (nI (3 * n))] [] w1 (fun a w' => xWp 6 m_Md_day 68 [xA 7 2, xI (nI q), xI x2, xI x3, xI (nI n), xI x5, xU, xU, xU, xU] (x_pu a []) w' Q) :=
              S_Md_against hq4 (g1.1.2.1 q hq4) hb.1 hb.2 (K w1 g1.1 g1.2)
            rw [e3n, e20, e04, e1017]
            exact ⟨fun _ => ⟨fun _ => ⟨fun _ => ⟨fun _ => K', fun _ => ⟨fun _ => K', fun c => by omega⟩⟩, fun c => absurd hn c⟩, fun c => absurd hl c⟩, fun c => absurd hp c⟩
          by_cases hv : vFa (s_r s q) (s_n s q) x2 x3 (nI (3 * n)) = 0
          · obtain ⟨hr, i, rfl, hi⟩ := vFa_in (by omega) hv
            by_cases hT : tn (s_T s) = 0
            · refine ⟨(-3), uF s 0, fun w h => hC w _ h (fun w1 h1 f1 => ?_), fun w h => hM w _ h (fun w1 h1 f1 => ?_)⟩
              · rw [hv]
                refine G_Vp_day_59 ⟨fun _ => ?_, fun c => absurd rfl c⟩
                rw [show w1 34 8 = 0 from (sC_n h1).trans (by rw [show tn (s_T (uF s 0)) = 0 from hT]; rfl)]
                exact ⟨fun _ => cF h1 f1, fun c => absurd rfl c⟩
              · rw [hv]
                refine G_Md_day_68 ⟨fun _ => ?_, fun c => absurd rfl c⟩
                rw [show w1 2 5 = 0 from (sM_n h1).trans (by rw [show tn (s_T (uF s 0)) = 0 from hT]; rfl)]
                exact ⟨fun _ => mF h1 f1, fun c => absurd rfl c⟩
            · refine ⟨(dAns (uF s 0) q i n x5), uF s 0, fun w h => hC w _ h (fun w1 h1 f1 => ?_), fun w h => hM w _ h (fun w1 h1 f1 => ?_)⟩
              · rw [hv]
                exact C_day h1 hq4 hr hi hq hT (fun w' h' f' => ⟨rfl, h', fC_tr f1 f'⟩)
              · rw [hv]
                have hb := (h.1.1 q hq4).2
                exact M_day h1 hq4 (by omega) hq hT (fun w' h' f' => ⟨rfl, h', fM_tr f1 f'⟩)
          · have h4 := vFa_4 (s_r s q) (s_n s q) x2 x3 (nI (3 * n))
            refine ⟨((-10) - nI (vFa (s_r s q) (s_n s q) x2 x3 (nI (3 * n)))), uF s (nI (vFa (s_r s q) (s_n s q) x2 x3 (nI (3 * n)))), fun w h => hC w _ h (fun w1 h1 f1 => ?_), fun w h => hM w _ h (fun w1 h1 f1 => ?_)⟩
            · refine G_Vp_day_59 ⟨fun c => absurd ((z_eq0 (by omega)).mp c) hv, fun _ w2 e2 => ?_⟩
              have g2 := sC_f h1 e2
              exact cF g2.1 (fC_tr f1 g2.2)
            · refine G_Md_day_68 ⟨fun c => absurd ((z_eq0 (by omega)).mp c) hv, fun _ w2 e2 => ?_⟩
              have g2 := sM_f h1 e2
              exact mF g2.1 (fM_tr f1 g2.2)
        · refine ⟨(-2), uF s 0, fun w h => G_Vp_day_0 (fun w1 e1 => ?_), fun w h => G_Md_day_0 (fun w1 e1 => ?_)⟩
          · have g1 := sC_f h e1
            rw [eq4]
            exact ⟨fun _ => ⟨fun _ => ⟨fun _ => cF g1.1 g1.2, fun _ => ⟨fun _ => cF g1.1 g1.2, fun _ => ⟨fun c => absurd c hq, fun _ => cF g1.1 g1.2⟩⟩⟩, fun _ => cF g1.1 g1.2⟩, fun c => absurd hp c⟩
          · have g1 := sM_f h e1
            rw [e04, e1017]
            exact ⟨fun _ => ⟨fun _ => ⟨fun _ => ⟨fun c => absurd (Or.inl c) hq, fun _ => ⟨fun c => absurd (Or.inr c) hq, fun _ => mF g1.1 g1.2⟩⟩, fun _ => mF g1.1 g1.2⟩, fun _ => mF g1.1 g1.2⟩, fun c => absurd hp c⟩
      · refine ⟨(-2), uF s 0, fun w h => G_Vp_day_0 (fun w1 e1 => ?_), fun w h => G_Md_day_0 (fun w1 e1 => ?_)⟩
        · have g1 := sC_f h e1
          rw [lt0, lt20]
          exact ⟨fun _ => ⟨fun _ => ⟨fun _ => cF g1.1 g1.2, fun _ => ⟨fun _ => cF g1.1 g1.2, fun _ => by omega⟩⟩, fun _ => cF g1.1 g1.2⟩, fun c => absurd hp c⟩
        · have g1 := sM_f h e1
          rw [e20]
          exact ⟨fun _ => ⟨fun _ => ⟨fun c => absurd c hn, fun _ => mF g1.1 g1.2⟩, fun _ => mF g1.1 g1.2⟩, fun c => absurd hp c⟩
    · exact ⟨(-2), uF s 0, fun w h => G_Vp_day_0 (fun w1 e1 => ⟨fun _ => ⟨fun c => absurd c hl, fun _ => cF (sC_f h e1).1 (sC_f h e1).2⟩, fun c => absurd hp c⟩), fun w h => G_Md_day_0 (fun w1 e1 => ⟨fun _ => ⟨fun c => absurd c hl, fun _ => mF (sM_f h e1).1 (sM_f h e1).2⟩, fun c => absurd hp c⟩)⟩
  · exact ⟨(-1), uF s 0, fun w h => G_Vp_day_0 (fun w1 e1 => ⟨fun c => absurd c hp, fun _ => cF (sC_f h e1).1 (sC_f h e1).2⟩), fun w h => G_Md_day_0 (fun w1 e1 => ⟨fun c => absurd c hp, fun _ => mF (sM_f h e1).1 (sM_f h e1).2⟩)⟩

