/-! COPIES: the call -/
theorem sC_gMv {s : xS} {w w' : xWd} (h : sC s w) (hf : gMv w w') : sC s w' ∧ fC w w' := ⟨sC_fS h (fun a ha => hf a (by omega) (by omega) (by omega)), fun a ha => hf a (by omega) (by omega) (by omega)⟩
theorem sM_fMv {s : xS} {w w' : xWd} (h : sM s w) (hf : fMv w w') : sM s w' ∧ fM w w' := by
  obtain ⟨h1, h2, h3, h4, h5, h6⟩ := h
  refine ⟨⟨h1, fun k hk => ?_, ?_, ?_, by rw [hf.2 1 (by omega) (by omega)]; exact h5, by rw [hf.2 0 (by omega) (by omega)]; exact h6⟩, fun a a1 a2 => hf.1 a a1 (by omega) (by omega)⟩
  · unfold mSh; rw [hf.1 67 (by omega) (by omega) (by omega), hf.1 68 (by omega) (by omega) (by omega), hf.1 69 (by omega) (by omega) (by omega)]; exact h2 k hk
  · unfold tM; rw [hf.2 5 (by omega) (by omega), hf.1 71 (by omega) (by omega) (by omega), hf.1 72 (by omega) (by omega) (by omega), hf.1 73 (by omega) (by omega) (by omega), hf.1 74 (by omega) (by omega) (by omega)]; exact h3
  · unfold mRd; rw [hf.2 26 (by omega) (by omega), hf.1 92 (by omega) (by omega) (by omega), hf.1 93 (by omega) (by omega) (by omega)]; exact h4
/-- the cells tell copies -/
def gTo (n : Nat) (F : Nat → Int32) : Prop := ∀ j, j < n → ∃ v, v < n ∧ F j = nI v
def gF (F : Nat → Int32) (j : Nat) : Nat := (F j).toNatClampNeg
theorem gF_v {F : Nat → Int32} {j v : Nat} (hv : v < 2 ^ 31) (h : F j = nI v) : gF F j = v := by
  unfold gF; rw [h, z_cl' hv]
theorem z_size8 {n : Nat} (hn : n ≤ 8) : (if 0 < (if 8 < nI n then 8 else nI n) then (if 8 < nI n then 8 else nI n) else 0) = nI n := by
  have h1 : ¬ (8 : Int32) < nI n := fun c => by have := (z_lt (a := 8) (by decide) (by omega)).mp c; omega
  rw [if_neg h1]
  by_cases h2 : (0 : Int32) < nI n
  · rw [if_pos h2]
  · rw [if_neg h2]
    have : n = 0 := by
      have : ¬ 0 < n := fun q => h2 ((z_lt (a := 0) (by decide) (by omega)).mpr q)
      omega
    rw [this]; rfl
theorem G_Mv_areTold_0 {d : Nat} {a1 : Nat} {x2 : Int32} {x3 : Int32} {w : xWd} {Q : xMV → xWd → Prop} (h : (∀ w1 : xWd, w1 = x_set w 38 2 (if 0 < if 8 < x3 then 8 else x3 then if 8 < x3 then 8 else x3 else 0) → (∀ w2 : xWd, w2 = x_set w1 38 3 0 → xWp (d + 2) m_Mv_areTold 22 [xA 1 38, xA 3 a1, xI x2, xI x3, xI 0, xU] [] w2 Q))) : xWp (d + 2) m_Mv_areTold 0 [xA 1 38, xA 3 a1, xI x2, xI x3, xU, xU] [] w Q := by
  refine x_goN 4 (pc' := 5) (ls' := [xA 1 38, xA 3 a1, xI x2, xI x3, xU, xU]) (st' := [xI 8, xI x3, xI 0, xA 1 38]) (w' := w) rfl ?_
  refine x_ob (P := 1 ≤ (d + 2)) (pc' := 8) (ls' := [xA 1 38, xA 3 a1, xI x2, xI x3, xU, xU]) (st' := [xI (if 8 < x3 then 8 else x3), xI 0, xA 1 38]) (w' := w) rfl (Nat.succ_le_succ (Nat.zero_le _)) ?_
  refine x_ob (P := 1 ≤ (d + 2)) (pc' := 11) (ls' := [xA 1 38, xA 3 a1, xI x2, xI x3, xU, xU]) (st' := [xI (if 0 < if 8 < x3 then 8 else x3 then if 8 < x3 then 8 else x3 else 0), xA 1 38]) (w' := w) rfl (Nat.succ_le_succ (Nat.zero_le _)) ?_
  refine x_goW (pc' := 14) (ls' := [xA 1 38, xA 3 a1, xI x2, xI x3, xU, xU]) (st' := []) (w' := x_set w 38 2 (if 0 < if 8 < x3 then 8 else x3 then if 8 < x3 then 8 else x3 else 0)) rfl (fun w1 ew1 => ?_)
  refine x_goN 2 (pc' := 16) (ls' := [xA 1 38, xA 3 a1, xI x2, xI x3, xU, xU]) (st' := [xI 0, xA 1 38]) (w' := w1) rfl ?_
  refine x_goW (pc' := 19) (ls' := [xA 1 38, xA 3 a1, xI x2, xI x3, xU, xU]) (st' := []) (w' := x_set w1 38 3 0) rfl (fun w2 ew2 => ?_)
  refine x_goN 2 (pc' := 22) (ls' := [xA 1 38, xA 3 a1, xI x2, xI x3, xI 0, xU]) (st' := []) (w' := w2) rfl ?_
  exact ((h w1 ew1) w2 ew2)
theorem G_Mv_areTold_22 {d : Nat} {a1 : Nat} {x2 : Int32} {x3 : Int32} {x4 : Int32} {w : xWd} {Q : xMV → xWd → Prop} (h : ((w 38 2 ≤ x4 → Q (xI 1) w) ∧ (¬ (w 38 2 ≤ x4) → xWp (d + 1) m_Sh_read 0 [xA 3 a1, xI (x2 + x4)] [] w (fun a w' => xWp (d + 2) m_Mv_areTold 39 [xA 1 38, xA 3 a1, xI x2, xI x3, xI x4, xU] (x_pu a []) w' Q)))) : xWp (d + 2) m_Mv_areTold 22 [xA 1 38, xA 3 a1, xI x2, xI x3, xI x4, xU] [] w Q := by
  refine x_goN 4 (pc' := if w 38 2 ≤ x4 then 92 else 31) (ls' := [xA 1 38, xA 3 a1, xI x2, xI x3, xI x4, xU]) (st' := []) (w' := w) rfl ?_
  refine x_br (fun c1 => ?_) (fun c1 => ?_)
  · skip
    refine x_goN 1 (pc' := 93) (ls' := [xA 1 38, xA 3 a1, xI x2, xI x3, xI x4, xU]) (st' := [xI 1]) (w' := w) rfl ?_
    exact x_ret (P := (1 : Int32) = 0 ∨ (1 : Int32) = 1) rfl (by decide) (h.1 c1)
  · skip
    refine x_goN 4 (pc' := 36) (ls' := [xA 1 38, xA 3 a1, xI x2, xI x3, xI x4, xU]) (st' := [xI (x2 + x4), xA 3 a1]) (w' := w) rfl ?_
    refine x_call (y := m_Sh_read) (as := [xA 3 a1, xI (x2 + x4)]) (rst := []) rfl [xA 3 a1, xI (x2 + x4)] rfl ?_
    exact (h.2 c1)
theorem G_Mv_areTold_39 {d : Nat} {a1 : Nat} {x2 : Int32} {x3 : Int32} {x4 : Int32} {s0 : Int32} {w : xWd} {Q : xMV → xWd → Prop} (h : ((s0 < 0 → Q (xI 0) w) ∧ (¬ (s0 < 0) → ((s0 < w 38 2 → (vp_in x4 8 ∧ ∀ w1 : xWd, w1 = x_set w 1217 x4.toNatClampNeg s0 → ((s0 = x4 → xWp (d + 2) m_Mv_areTold 22 [xA 1 38, xA 3 a1, xI x2, xI x3, xI (x4 + 1), xU] [] w1 Q) ∧ (¬ (s0 = x4) → (∀ w2 : xWd, w2 = x_set w1 38 3 ((w1 38 3) ||| ((1 : Int32) <<< (x4 &&& 31))) → xWp (d + 2) m_Mv_areTold 22 [xA 1 38, xA 3 a1, xI x2, xI x3, xI (x4 + 1), xU] [] w2 Q))))) ∧ (¬ (s0 < w 38 2) → Q (xI 0) w))))) : xWp (d + 2) m_Mv_areTold 39 [xA 1 38, xA 3 a1, xI x2, xI x3, xI x4, xU] [xI s0] w Q := by
  refine x_goN 3 (pc' := if s0 < 0 then 55 else 46) (ls' := [xA 1 38, xA 3 a1, xI x2, xI x3, xI x4, xI s0]) (st' := []) (w' := w) rfl ?_
  refine x_br (fun c1 => ?_) (fun c1 => ?_)
  · skip
    refine x_goN 1 (pc' := 56) (ls' := [xA 1 38, xA 3 a1, xI x2, xI x3, xI x4, xI s0]) (st' := [xI 0]) (w' := w) rfl ?_
    exact x_ret (P := (0 : Int32) = 0 ∨ (0 : Int32) = 1) rfl (by decide) (h.1 c1)
  · skip
    refine x_goN 4 (pc' := if s0 < w 38 2 then 57 else 55) (ls' := [xA 1 38, xA 3 a1, xI x2, xI x3, xI x4, xI s0]) (st' := []) (w' := w) rfl ?_
    refine x_br (fun c2 => ?_) (fun c2 => ?_)
    · skip
      refine x_goN 4 (pc' := 65) (ls' := [xA 1 38, xA 3 a1, xI x2, xI x3, xI x4, xI s0]) (st' := [xI s0, xI x4, xA 108 1217]) (w' := w) rfl ?_
      refine x_obW (P := vp_in x4 8) (pc' := 66) (ls' := [xA 1 38, xA 3 a1, xI x2, xI x3, xI x4, xI s0]) (st' := []) (w' := x_set w 1217 x4.toNatClampNeg s0) rfl ((h.2 c1).1 c2).1 (fun w1 ew1 => ?_)
      refine x_goN 3 (pc' := if s0 = x4 then 86 else 73) (ls' := [xA 1 38, xA 3 a1, xI x2, xI x3, xI x4, xI s0]) (st' := []) (w' := w1) rfl ?_
      refine x_br (fun c3 => ?_) (fun c3 => ?_)
      · skip
        refine x_goN 2 (pc' := 22) (ls' := [xA 1 38, xA 3 a1, xI x2, xI x3, xI (x4 + 1), xI s0]) (st' := []) (w' := w1) rfl ?_
        exact x_weak (((((h.2 c1).1 c2).2 w1 ew1).1 c3)) ⟨Or.inl rfl, Or.inl rfl, Or.inl rfl, Or.inl rfl, Or.inl rfl, Or.inr ⟨rfl, rfl⟩, trivial⟩
      · skip
        refine x_goN 7 (pc' := 83) (ls' := [xA 1 38, xA 3 a1, xI x2, xI x3, xI x4, xI s0]) (st' := [xI ((w1 38 3) ||| ((1 : Int32) <<< (x4 &&& 31))), xA 1 38]) (w' := w1) rfl ?_
        refine x_goW (pc' := 86) (ls' := [xA 1 38, xA 3 a1, xI x2, xI x3, xI x4, xI s0]) (st' := []) (w' := x_set w1 38 3 ((w1 38 3) ||| ((1 : Int32) <<< (x4 &&& 31)))) rfl (fun w2 ew2 => ?_)
        refine x_goN 2 (pc' := 22) (ls' := [xA 1 38, xA 3 a1, xI x2, xI x3, xI (x4 + 1), xI s0]) (st' := []) (w' := w2) rfl ?_
        exact x_weak ((((((h.2 c1).1 c2).2 w1 ew1).2 c3) w2 ew2)) ⟨Or.inl rfl, Or.inl rfl, Or.inl rfl, Or.inl rfl, Or.inl rfl, Or.inr ⟨rfl, rfl⟩, trivial⟩
    · skip
      refine x_goN 1 (pc' := 56) (ls' := [xA 1 38, xA 3 a1, xI x2, xI x3, xI x4, xI s0]) (st' := [xI 0]) (w' := w) rfl ?_
      exact x_ret (P := (0 : Int32) = 0 ∨ (0 : Int32) = 1) rfl (by decide) ((h.2 c1).2 c2)
theorem L_Mv_areTold {d q i n : Nat} {s : xS} {w0 : xWd} {Q : xMV → xWd → Prop} (h0 : sC s w0) (hq : q < 4) (hr : 0 < s_r s q) (hi : i + n ≤ s_n s q) (hn : n ≤ 8) (h1 : ∀ w', gTo n (fun j => s_c s q (i + j)) → gMv w0 w' → w' 38 2 = nI n → w' 38 3 = nI (g_op n (gF (fun j => s_c s q (i + j)))) → (∀ p, p < n → w' 1217 p = nI (gF (fun j => s_c s q (i + j)) p)) → Q (xI 1) w') (h2 : ∀ w', ¬ gTo n (fun j => s_c s q (i + j)) → gMv w0 w' → Q (xI 0) w') : ∀ (m t : Nat) (w : xWd), t + m = n → gMv w0 w → w 38 2 = nI n → w 38 3 = nI (z_mk t (fun p => decide (gF (fun j => s_c s q (i + j)) p ≠ p))) → (∀ p, p < t → (∃ v, v < n ∧ s_c s q (i + p) = nI v) ∧ w 1217 p = nI (gF (fun j => s_c s q (i + j)) p)) → xWp (d + 2) m_Mv_areTold 22 [xA 1 38, xA 3 (1057 + q), xI (nI i), xI (nI n), xI (nI t), xU] [] w Q := by
  have hb := h0.1.1 q hq
  intro m
  induction m with
  | zero =>
    intro t w ht hf a2 a3 hv
    have e : t = n := by omega
    subst e
    refine G_Mv_areTold_22 ?_
    rw [a2]
    exact ⟨fun _ => h1 w (fun j hj => (hv j hj).1) hf a2 a3 (fun p hp => (hv p hp).2), fun c => absurd ((z_le (by omega) (by omega)).mpr (Nat.le_refl _)) c⟩
  | succ m ih =>
    intro t w ht hf a2 a3 hv
    have hlt : t < n := by omega
    have hs := (sC_gMv h0 hf).1.2.1 q hq
    refine G_Mv_areTold_22 ?_
    rw [a2, nI_add]
    refine ⟨fun c => absurd ((z_le (by omega) (by omega)).mp c) (by omega), fun _ => S_Sh_read hs hr hb.2 (by omega) ?_⟩
    refine G_Mv_areTold_39 ?_
    rw [a2]
    refine ⟨fun c => h2 w (fun hh => ?_) hf, fun c => ⟨fun c2 => ⟨z_in (by omega) (by decide), fun w1 e1 => ?_⟩, fun c2 => h2 w (fun hh => ?_) hf⟩⟩
    · obtain ⟨v, hv1, hv2⟩ := hh t hlt
      have hv2' : s_c s q (i + t) = nI v := hv2
      rw [hv2'] at c
      exact z_neg (by omega) c
    · obtain ⟨v, hv31, ev⟩ := nI_of c
      have hvn : v < n := by
        rw [ev] at c2
        exact (z_lt hv31 (by omega)).mp c2
      have egF : gF (fun j => s_c s q (i + j)) t = v := gF_v (F := fun j => s_c s q (i + j)) hv31 ev
      rw [z_cl' (by omega), ev] at e1
      rw [ev, z_eq (by omega) (by omega), nI_1]
      have k2 : w1 38 2 = nI n := by rw [e1, x_set_o (by decide)]; exact a2
      have k3 : w1 38 3 = nI (z_mk t (fun p => decide (gF (fun j => s_c s q (i + j)) p ≠ p))) := by rw [e1, x_set_o (by decide)]; exact a3
      have hf1 : gMv w0 w1 := gMv_tr hf (fun a b1 b2 b3 => by rw [e1, x_set_o b2])
      have hv1 : ∀ p, p < t + 1 → (∃ v, v < n ∧ s_c s q (i + p) = nI v) ∧ w1 1217 p = nI (gF (fun j => s_c s q (i + j)) p) := by
        intro p hp
        rw [e1, x_set_s]
        by_cases ep : p = t
        · subst ep
          rw [upd_s, egF]
          exact ⟨⟨v, hvn, ev⟩, rfl⟩
        · rw [upd_o ep]; exact hv p (by omega)
      refine ⟨fun ce => ?_, fun ce w2 e2 => ?_⟩
      · refine ih (t + 1) w1 (by omega) hf1 k2 ?_ hv1
        rw [k3, ← z_mk_no (p := fun p => decide (gF (fun j => s_c s q (i + j)) p ≠ p)) (by rw [egF, decide_eq_true_eq]; omega)]
      · rw [k3, z_shl t (by omega), z_mk_or (p := fun p => decide (gF (fun j => s_c s q (i + j)) p ≠ p)) (by rw [egF]; exact decide_eq_true ce)] at e2
        refine ih (t + 1) w2 (by omega) (gMv_tr hf1 (fun a b1 b2 b3 => by rw [e2, x_set_o b1])) ?_ ?_ (fun p hp => ?_)
        · rw [e2, x_set_s, upd_o (by decide)]; exact k2
        · rw [e2, x_set_s, upd_s]
        · rw [e2, x_set_o (by decide)]; exact hv1 p hp
    · obtain ⟨v, hv1, hv2⟩ := hh t hlt
      have hv2' : s_c s q (i + t) = nI v := hv2
      rw [hv2'] at c2
      exact c2 ((z_lt (by omega) (by omega)).mpr hv1)
def gEnd (n : Nat) (F : Nat → Int32) : xGM := g_run n 17 (gF F, 0, 0, fun _ => 0)
def cAns (G : xGM) (x : Int32) : Int32 := if x = 0 then nI G.2.1 else if x = 1 then nI G.2.2.1 else if (x - 10).toNatClampNeg < G.2.1 then nI (G.2.2.2 (x - 10).toNatClampNeg) else -9
theorem gTo_in {n : Nat} {F : Nat → Int32} (hn : n ≤ 8) (h : gTo n F) : gIn n (gF F) := fun p hp => by
  obtain ⟨v, hv, e⟩ := h p hp
  rw [gF_v (by omega) e]; omega
theorem gEnd_le {n : Nat} {F : Nat → Int32} (hn : n ≤ 8) (h : gTo n F) : (gEnd n F).2.1 ≤ 17 := g_run_in hn 17 _ (gTo_in hn h) (by show 0 + g_mu n (gF F) ≤ 17; have := g_mu_le hn (gF F); omega)
theorem z_1029 {x : Int32} (h : 10 ≤ x.toInt) (h2 : x.toInt ≤ 29) : ∃ j, j < 20 ∧ x - 10 = nI j := by
  obtain ⟨m, e1, e2, -⟩ := z_of (v := x) (by omega)
  refine ⟨m - 10, by omega, ?_⟩
  rw [e1]
  exact pk_sub (b := 10) (by omega)
theorem G_Mv_inPlace_0 {d : Nat} {x1 : Int32} {w : xWd} {Q : xMV → xWd → Prop} (h : ((x1 < 0 → Q (xI (-9)) w) ∧ (¬ (x1 < 0) → ((w 38 4 ≤ x1 → Q (xI (-9)) w) ∧ (¬ (w 38 4 ≤ x1) → (vp_in x1 20 ∧ Q (xI (w 1218 x1.toNatClampNeg)) w)))))) : xWp d m_Mv_inPlace 0 [xA 1 38, xI x1] [] w Q := by
  refine x_goN 2 (pc' := if x1 < 0 then 21 else 4) (ls' := [xA 1 38, xI x1]) (st' := []) (w' := w) rfl ?_
  refine x_br (fun c1 => ?_) (fun c1 => ?_)
  · skip
    refine x_goN 1 (pc' := 23) (ls' := [xA 1 38, xI x1]) (st' := [xI (-9)]) (w' := w) rfl ?_
    exact x_ret (P := True) rfl trivial (h.1 c1)
  · skip
    refine x_goN 4 (pc' := if w 38 4 ≤ x1 then 21 else 12) (ls' := [xA 1 38, xI x1]) (st' := []) (w' := w) rfl ?_
    refine x_br (fun c2 => ?_) (fun c2 => ?_)
    · skip
      refine x_goN 1 (pc' := 23) (ls' := [xA 1 38, xI x1]) (st' := [xI (-9)]) (w' := w) rfl ?_
      exact x_ret (P := True) rfl trivial ((h.2 c1).1 c2)
    · skip
      refine x_goN 3 (pc' := 17) (ls' := [xA 1 38, xI x1]) (st' := [xI x1, xA 120 1218]) (w' := w) rfl ?_
      refine x_ob (P := vp_in x1 20) (pc' := 18) (ls' := [xA 1 38, xI x1]) (st' := [xI (w 1218 x1.toNatClampNeg)]) (w' := w) rfl ((h.2 c1).2 c2).1 ?_
      refine x_goN 1 (pc' := 23) (ls' := [xA 1 38, xI x1]) (st' := [xI (w 1218 x1.toNatClampNeg)]) (w' := w) rfl ?_
      exact x_ret (P := True) rfl trivial ((h.2 c1).2 c2).2
theorem G_Vp_copies_0 {d : Nat} {x1 : Int32} {x2 : Int32} {x3 : Int32} {x4 : Int32} {x5 : Int32} {w : xWd} {Q : xMV → xWd → Prop} (h : (∀ w1 : xWd, w1 = x_set w 1 8 0 → ((p_rg x1 0 3 → ((p_rg x2 0 2 → ((x4 < 0 → Q (xI (-2)) w1) ∧ (¬ (x4 < 0) → ((8 < x4 → Q (xI (-2)) w1) ∧ (¬ (8 < x4) → ((p_q1 x5 → (vp_in x1 4 ∧ xWp (d + 2) m_Sh_faultOfCells 0 [xA 3 (32 * 33 + x1.toNatClampNeg + 1), xI x2, xI x3, xI x4] [] w1 (fun a w' => xWp (d + 3) m_Vp_copies 57 [xA 6 1, xI x1, xI x2, xI x3, xI x4, xI x5, xU] (x_pu a []) w' Q))) ∧ (¬ (p_q1 x5) → Q (xI (-2)) w1))))))) ∧ (¬ (p_rg x2 0 2) → Q (xI (-2)) w1))) ∧ (¬ (p_rg x1 0 3) → Q (xI (-1)) w1)))) : xWp (d + 3) m_Vp_copies 0 [xA 6 1, xI x1, xI x2, xI x3, xI x4, xI x5, xU] [] w Q := by
  refine x_goN 2 (pc' := 2) (ls' := [xA 6 1, xI x1, xI x2, xI x3, xI x4, xI x5, xU]) (st' := [xI 0, xA 6 1]) (w' := w) rfl ?_
  refine x_goW (pc' := 5) (ls' := [xA 6 1, xI x1, xI x2, xI x3, xI x4, xI x5, xU]) (st' := []) (w' := x_set w 1 8 0) rfl (fun w1 ew1 => ?_)
  refine x_goN 1 (pc' := 6) (ls' := [xA 6 1, xI x1, xI x2, xI x3, xI x4, xI x5, xU]) (st' := [xI x1]) (w' := w1) rfl ?_
  refine x_call (y := m_Vp_isSheet) (as := [xI x1]) (rst := []) rfl [xI x1] rfl ?_
  refine S_Vp_isSheet (fun c1 => ?_) (fun c1 => ?_)
  · skip
    refine x_goN 1 (pc' := if (1 : Int32) = (0 : Int32) then 12 else 14) (ls' := [xA 6 1, xI x1, xI x2, xI x3, xI x4, xI x5, xU]) (st' := []) (w' := w1) rfl ?_
    refine x_brF (by decide) ?_
    refine x_goN 1 (pc' := 15) (ls' := [xA 6 1, xI x1, xI x2, xI x3, xI x4, xI x5, xU]) (st' := [xI x2]) (w' := w1) rfl ?_
    refine x_call (y := m_Vp_isLane) (as := [xI x2]) (rst := []) rfl [xI x2] rfl ?_
    refine S_Vp_isLane (fun c2 => ?_) (fun c2 => ?_)
    · skip
      refine x_goN 1 (pc' := if (1 : Int32) = (0 : Int32) then 41 else 21) (ls' := [xA 6 1, xI x1, xI x2, xI x3, xI x4, xI x5, xU]) (st' := []) (w' := w1) rfl ?_
      refine x_brF (by decide) ?_
      refine x_goN 2 (pc' := if x4 < 0 then 41 else 26) (ls' := [xA 6 1, xI x1, xI x2, xI x3, xI x4, xI x5, xU]) (st' := []) (w' := w1) rfl ?_
      refine x_br (fun c3 => ?_) (fun c3 => ?_)
      · skip
        refine x_goN 1 (pc' := 43) (ls' := [xA 6 1, xI x1, xI x2, xI x3, xI x4, xI x5, xU]) (st' := [xI (-2)]) (w' := w1) rfl ?_
        exact x_ret (P := True) rfl trivial ((((h w1 ew1).1 c1).1 c2).1 c3)
      · skip
        refine x_goN 3 (pc' := if 8 < x4 then 41 else 33) (ls' := [xA 6 1, xI x1, xI x2, xI x3, xI x4, xI x5, xU]) (st' := []) (w' := w1) rfl ?_
        refine x_br (fun c4 => ?_) (fun c4 => ?_)
        · skip
          refine x_goN 1 (pc' := 43) (ls' := [xA 6 1, xI x1, xI x2, xI x3, xI x4, xI x5, xU]) (st' := [xI (-2)]) (w' := w1) rfl ?_
          exact x_ret (P := True) rfl trivial (((((h w1 ew1).1 c1).1 c2).2 c3).1 c4)
        · skip
          refine x_goN 1 (pc' := 35) (ls' := [xA 6 1, xI x1, xI x2, xI x3, xI x4, xI x5, xU]) (st' := [xI x5]) (w' := w1) rfl ?_
          refine x_call (y := m_Vp_isCopiesQuestion) (as := [xI x5]) (rst := []) rfl [xI x5] rfl ?_
          refine S_Vp_isCopiesQuestion (fun c5 => ?_) (fun c5 => ?_)
          · skip
            refine x_goN 1 (pc' := if (1 : Int32) = (0 : Int32) then 41 else 44) (ls' := [xA 6 1, xI x1, xI x2, xI x3, xI x4, xI x5, xU]) (st' := []) (w' := w1) rfl ?_
            refine x_brF (by decide) ?_
            refine x_goN 3 (pc' := 49) (ls' := [xA 6 1, xI x1, xI x2, xI x3, xI x4, xI x5, xU]) (st' := [xI x1, xA 50 33]) (w' := w1) rfl ?_
            refine x_ob (P := vp_in x1 4) (pc' := 50) (ls' := [xA 6 1, xI x1, xI x2, xI x3, xI x4, xI x5, xU]) (st' := [xA 3 (32 * 33 + x1.toNatClampNeg + 1)]) (w' := w1) rfl ((((((h w1 ew1).1 c1).1 c2).2 c3).2 c4).1 c5).1 ?_
            refine x_goN 3 (pc' := 54) (ls' := [xA 6 1, xI x1, xI x2, xI x3, xI x4, xI x5, xU]) (st' := [xI x4, xI x3, xI x2, xA 3 (32 * 33 + x1.toNatClampNeg + 1)]) (w' := w1) rfl ?_
            refine x_call (y := m_Sh_faultOfCells) (as := [xA 3 (32 * 33 + x1.toNatClampNeg + 1), xI x2, xI x3, xI x4]) (rst := []) rfl [xA 3 (32 * 33 + x1.toNatClampNeg + 1), xI x2, xI x3, xI x4] rfl ?_
            exact ((((((h w1 ew1).1 c1).1 c2).2 c3).2 c4).1 c5).2
          · skip
            refine x_goN 1 (pc' := if (0 : Int32) = (0 : Int32) then 41 else 44) (ls' := [xA 6 1, xI x1, xI x2, xI x3, xI x4, xI x5, xU]) (st' := []) (w' := w1) rfl ?_
            refine x_brT (by decide) ?_
            refine x_goN 1 (pc' := 43) (ls' := [xA 6 1, xI x1, xI x2, xI x3, xI x4, xI x5, xU]) (st' := [xI (-2)]) (w' := w1) rfl ?_
            exact x_ret (P := True) rfl trivial ((((((h w1 ew1).1 c1).1 c2).2 c3).2 c4).2 c5)
    · skip
      refine x_goN 1 (pc' := if (0 : Int32) = (0 : Int32) then 41 else 21) (ls' := [xA 6 1, xI x1, xI x2, xI x3, xI x4, xI x5, xU]) (st' := []) (w' := w1) rfl ?_
      refine x_brT (by decide) ?_
      refine x_goN 1 (pc' := 43) (ls' := [xA 6 1, xI x1, xI x2, xI x3, xI x4, xI x5, xU]) (st' := [xI (-2)]) (w' := w1) rfl ?_
      exact x_ret (P := True) rfl trivial (((h w1 ew1).1 c1).2 c2)
  · skip
    refine x_goN 1 (pc' := if (0 : Int32) = (0 : Int32) then 12 else 14) (ls' := [xA 6 1, xI x1, xI x2, xI x3, xI x4, xI x5, xU]) (st' := []) (w' := w1) rfl ?_
    refine x_brT (by decide) ?_
    refine x_goN 1 (pc' := 13) (ls' := [xA 6 1, xI x1, xI x2, xI x3, xI x4, xI x5, xU]) (st' := [xI (-1)]) (w' := w1) rfl ?_
    exact x_ret (P := True) rfl trivial ((h w1 ew1).2 c1)
theorem G_Vp_copies_57 {d : Nat} {x1 : Int32} {x2 : Int32} {x3 : Int32} {x4 : Int32} {x5 : Int32} {s0 : Int32} {w : xWd} {Q : xMV → xWd → Prop} (h : ((s0 = 0 → (vp_in x1 4 ∧ xWp (d + 2) m_Mv_areTold 0 [xA 1 38, xA 3 (32 * 33 + x1.toNatClampNeg + 1), xI x3, xI x4, xU, xU] [] w (fun a w' => xWp (d + 3) m_Vp_copies 87 [xA 6 1, xI x1, xI x2, xI x3, xI x4, xI x5, xI s0] (x_pu a []) w' Q))) ∧ (¬ (s0 = 0) → (∀ w1 : xWd, w1 = x_set w 1 8 s0 → Q (xI ((-10) - s0)) w1)))) : xWp (d + 3) m_Vp_copies 57 [xA 6 1, xI x1, xI x2, xI x3, xI x4, xI x5, xU] [xI s0] w Q := by
  refine x_goN 3 (pc' := if s0 = 0 then 71 else 64) (ls' := [xA 6 1, xI x1, xI x2, xI x3, xI x4, xI x5, xI s0]) (st' := []) (w' := w) rfl ?_
  refine x_br (fun c1 => ?_) (fun c1 => ?_)
  · skip
    refine x_goN 5 (pc' := 80) (ls' := [xA 6 1, xI x1, xI x2, xI x3, xI x4, xI x5, xI s0]) (st' := [xI x1, xA 50 33, xA 1 38]) (w' := w) rfl ?_
    refine x_ob (P := vp_in x1 4) (pc' := 81) (ls' := [xA 6 1, xI x1, xI x2, xI x3, xI x4, xI x5, xI s0]) (st' := [xA 3 (32 * 33 + x1.toNatClampNeg + 1), xA 1 38]) (w' := w) rfl (h.1 c1).1 ?_
    refine x_goN 2 (pc' := 84) (ls' := [xA 6 1, xI x1, xI x2, xI x3, xI x4, xI x5, xI s0]) (st' := [xI x4, xI x3, xA 3 (32 * 33 + x1.toNatClampNeg + 1), xA 1 38]) (w' := w) rfl ?_
    refine x_call (y := m_Mv_areTold) (as := [xA 1 38, xA 3 (32 * 33 + x1.toNatClampNeg + 1), xI x3, xI x4]) (rst := []) rfl [xA 1 38, xA 3 (32 * 33 + x1.toNatClampNeg + 1), xI x3, xI x4, xU, xU] rfl ?_
    exact (h.1 c1).2
  · skip
    refine x_goN 2 (pc' := 67) (ls' := [xA 6 1, xI x1, xI x2, xI x3, xI x4, xI x5, xI s0]) (st' := [xI s0, xA 6 1]) (w' := w) rfl ?_
    refine x_call (y := m_Vp_faulty) (as := [xA 6 1, xI s0]) (rst := []) rfl [xA 6 1, xI s0] rfl ?_
    refine S_Vp_faulty (fun w1 ew1 => ?_)
    exact x_ret (P := True) rfl trivial ((h.2 c1) w1 ew1)
theorem G_Vp_copies_87 {d : Nat} {x1 : Int32} {x2 : Int32} {x3 : Int32} {x4 : Int32} {x5 : Int32} {x6 : Int32} {s0 : Int32} {w : xWd} {Q : xMV → xWd → Prop} (h : ((s0 = 0 → Q (xI (-2)) w) ∧ (¬ (s0 = 0) → xWp (d + 2) m_Mv_makeAll 0 [xA 1 38, xU, xU] [] w (fun a w' => xWp (d + 3) m_Vp_copies 100 [xA 6 1, xI x1, xI x2, xI x3, xI x4, xI x5, xI x6] (x_pu a []) w' Q)))) : xWp (d + 3) m_Vp_copies 87 [xA 6 1, xI x1, xI x2, xI x3, xI x4, xI x5, xI x6] [xI s0] w Q := by
  refine x_goN 1 (pc' := if s0 = 0 then 90 else 93) (ls' := [xA 6 1, xI x1, xI x2, xI x3, xI x4, xI x5, xI x6]) (st' := []) (w' := w) rfl ?_
  refine x_br (fun c1 => ?_) (fun c1 => ?_)
  · skip
    refine x_goN 1 (pc' := 92) (ls' := [xA 6 1, xI x1, xI x2, xI x3, xI x4, xI x5, xI x6]) (st' := [xI (-2)]) (w' := w) rfl ?_
    exact x_ret (P := True) rfl trivial (h.1 c1)
  · skip
    refine x_goN 2 (pc' := 97) (ls' := [xA 6 1, xI x1, xI x2, xI x3, xI x4, xI x5, xI x6]) (st' := [xA 1 38]) (w' := w) rfl ?_
    refine x_call (y := m_Mv_makeAll) (as := [xA 1 38]) (rst := []) rfl [xA 1 38, xU, xU] rfl ?_
    exact (h.2 c1)
theorem G_Vp_copies_100 {d : Nat} {x1 : Int32} {x2 : Int32} {x3 : Int32} {x4 : Int32} {x5 : Int32} {x6 : Int32} {w : xWd} {Q : xMV → xWd → Prop} (h : ((x5 = 0 → Q (xI (w 38 4)) w) ∧ (¬ (x5 = 0) → ((x5 = 1 → xWp (d + 3) m_Vp_copies 141 [xA 6 1, xI x1, xI x2, xI x3, xI x4, xI x5, xI x6] [xI (w 38 5)] w Q) ∧ (¬ (x5 = 1) → xWp (d + 2) m_Mv_inPlace 0 [xA 1 38, xI (x5 - 10)] [] w (fun a w' => xWp (d + 3) m_Vp_copies 141 [xA 6 1, xI x1, xI x2, xI x3, xI x4, xI x5, xI x6] (x_pu a []) w' Q)))))) : xWp (d + 3) m_Vp_copies 100 [xA 6 1, xI x1, xI x2, xI x3, xI x4, xI x5, xI x6] [] w Q := by
  refine x_goN 2 (pc' := if x5 = 0 then 105 else 113) (ls' := [xA 6 1, xI x1, xI x2, xI x3, xI x4, xI x5, xI x6]) (st' := []) (w' := w) rfl ?_
  refine x_br (fun c1 => ?_) (fun c1 => ?_)
  · skip
    refine x_goN 3 (pc' := 112) (ls' := [xA 6 1, xI x1, xI x2, xI x3, xI x4, xI x5, xI x6]) (st' := [xI (w 38 4)]) (w' := w) rfl ?_
    exact x_ret (P := True) rfl trivial (h.1 c1)
  · skip
    refine x_goN 3 (pc' := if x5 = 1 then 119 else 129) (ls' := [xA 6 1, xI x1, xI x2, xI x3, xI x4, xI x5, xI x6]) (st' := []) (w' := w) rfl ?_
    refine x_br (fun c2 => ?_) (fun c2 => ?_)
    · skip
      refine x_goN 4 (pc' := 141) (ls' := [xA 6 1, xI x1, xI x2, xI x3, xI x4, xI x5, xI x6]) (st' := [xI (w 38 5)]) (w' := w) rfl ?_
      exact ((h.2 c1).1 c2)
    · skip
      refine x_goN 5 (pc' := 138) (ls' := [xA 6 1, xI x1, xI x2, xI x3, xI x4, xI x5, xI x6]) (st' := [xI (x5 - 10), xA 1 38]) (w' := w) rfl ?_
      refine x_call (y := m_Mv_inPlace) (as := [xA 1 38, xI (x5 - 10)]) (rst := []) rfl [xA 1 38, xI (x5 - 10)] rfl ?_
      exact ((h.2 c1).2 c2)
theorem G_Vp_copies_141 {d : Nat} {x1 : Int32} {x2 : Int32} {x3 : Int32} {x4 : Int32} {x5 : Int32} {x6 : Int32} {s0 : Int32} {w : xWd} {Q : xMV → xWd → Prop} (h : Q (xI s0) w) : xWp (d + 3) m_Vp_copies 141 [xA 6 1, xI x1, xI x2, xI x3, xI x4, xI x5, xI x6] [xI s0] w Q := by
  exact x_ret (P := True) rfl trivial h
theorem C_copies {q i n : Nat} {s : xS} {w : xWd} {Q : xMV → xWd → Prop} {x2 x5 : Int32} (h : sC s w) (hq : q < 4) (hr : 0 < s_r s q) (hi : i + n ≤ s_n s q) (hn : n ≤ 8) (hx : (0 ≤ x5.toInt ∧ x5.toInt ≤ 1) ∨ (10 ≤ x5.toInt ∧ x5.toInt ≤ 29)) (h1 : gTo n (fun j => s_c s q (i + j)) → ∀ w', sC s w' → fC w w' → Q (xI (cAns (gEnd n (fun j => s_c s q (i + j))) x5)) w') (h2 : ¬ gTo n (fun j => s_c s q (i + j)) → ∀ w', sC s w' → fC w w' → Q (xI (-2)) w') : xWp 6 m_Vp_copies 57 [xA 6 1, xI (nI q), xI x2, xI (nI i), xI (nI n), xI x5, xU] [xI 0] w Q := by
  refine G_Vp_copies_57 ⟨fun _ => ⟨z_in hq (by decide), ?_⟩, fun c => absurd rfl c⟩
  rw [z_ad hq]
  refine G_Mv_areTold_0 (fun w1 e1 w2 e2 => ?_)
  rw [z_size8 hn] at e1
  have f2 : gMv w w2 := fun a a1 a2 a3 => by rw [e2, x_set_o a1, e1, x_set_o a1]
  refine L_Mv_areTold h hq hr hi hn (fun w3 ht f3 a2 a3 av => ?_) (fun w3 ht f3 => ?_) n 0 w2 (Nat.zero_add _) f2 (by rw [e2, x_set_s, upd_o (by decide), e1, x_set_s, upd_s]) (by rw [e2, x_set_s, upd_s]; rfl) (fun p hp => absurd hp (Nat.not_lt_zero _))
  · refine G_Vp_copies_87 ⟨fun c => absurd c n_10, fun _ => ?_⟩
    refine G_Mv_makeAll_0 (fun w4 e4 w5 e5 => ?_)
    have f5 : gMv w w5 := gMv_tr f3 (fun a b1 b2 b3 => by rw [e5, x_set_o b1, e4, x_set_o b1])
    have hmu := g_mu_le hn (gF (fun j => s_c s q (i + j)))
    have hG : cMv w5 n (gF (fun j => s_c s q (i + j)), 0, 0, fun _ => 0) := by
      refine ⟨?_, ?_, ?_, ?_, fun p hp _ => ?_, fun j hj => absurd hj (Nat.not_lt_zero _)⟩
      · rw [e5, x_set_s, upd_o (by decide), e4, x_set_s, upd_o (by decide)]; exact a2
      · rw [e5, x_set_s, upd_o (by decide), e4, x_set_s, upd_o (by decide)]; exact a3
      · rw [e5, x_set_s, upd_o (by decide), e4, x_set_s, upd_s]; rfl
      · rw [e5, x_set_s, upd_s]; rfl
      · rw [e5, x_set_o (by decide), e4, x_set_o (by decide)]; exact av p hp
    refine L_Mv_makeAll (w0 := w) hn 17 (gF (fun j => s_c s q (i + j)), 0, 0, fun _ => 0) w5 hmu (by show 0 + g_mu n (gF (fun j => s_c s q (i + j))) ≤ 17; omega) (gTo_in hn ht) f5 hG (fun w6 f6 hG6 => ?_)
    have hC := sC_gMv h f6
    have hle := gEnd_le hn ht
    have K := h1 ht w6 hC.1 hC.2
    obtain ⟨b2, b3, b4, b5, b6, b7⟩ := hG6
    have b4' : w6 38 4 = nI (gEnd n (fun j => s_c s q (i + j))).2.1 := b4
    have b5' : w6 38 5 = nI (gEnd n (fun j => s_c s q (i + j))).2.2.1 := b5
    unfold cAns at K
    refine G_Vp_copies_100 ⟨fun c => ?_, fun c0 => ⟨fun c => ?_, fun c1 => ?_⟩⟩
    · rw [if_pos c] at K
      rw [b4']; exact K
    · rw [if_neg c0, if_pos c] at K
      rw [b5']
      exact G_Vp_copies_141 K
    · rw [if_neg c0, if_neg c1] at K
      rw [fa_eq, e_l0] at c0
      rw [fa_eq, e_l1] at c1
      obtain ⟨j, hj, ej⟩ := z_1029 (x := x5) (by omega) (by omega)
      rw [ej, z_cl' (by omega)] at K
      rw [ej]
      refine G_Mv_inPlace_0 ⟨fun c => absurd c (z_neg (by omega)), fun _ => ?_⟩
      rw [b4', z_le (by omega) (by omega), z_cl' (by omega)]
      refine ⟨fun c => ?_, fun c => ⟨z_in (by omega) (by decide), ?_⟩⟩
      · rw [if_neg (by omega)] at K
        exact G_Vp_copies_141 K
      · rw [if_pos (by omega)] at K
        have b7' : w6 1218 j = nI ((gEnd n (fun j => s_c s q (i + j))).2.2.2 j) := b7 j (by show j < (gEnd n (fun j => s_c s q (i + j))).2.1; omega)
        rw [b7']
        exact G_Vp_copies_141 K
  · have hC := sC_gMv h f3
    exact G_Vp_copies_87 ⟨fun _ => h2 ht w3 hC.1 hC.2, fun c => absurd rfl c⟩
theorem G_Md_copies_0 {d : Nat} {x1 : Int32} {x2 : Int32} {x3 : Int32} {x4 : Int32} {x5 : Int32} {w : xWd} {Q : xMV → xWd → Prop} (h : (∀ w1 : xWd, w1 = x_set w 2 0 0 → ((p_rg x1 0 3 → ((p_rg x2 0 2 → ((p_wi x4 0 8 → ((p_wi x5 0 1 → xWp (d + 1) m_Md_against 0 [xA 7 2, xI x1, xI x2, xI x3, xI x4] [] w1 (fun a w' => xWp (d + 2) m_Md_copies 66 [xA 7 2, xI x1, xI x2, xI x3, xI x4, xI x5, xU, xU] (x_pu a []) w' Q)) ∧ (¬ (p_wi x5 0 1) → ((p_wi x5 10 29 → xWp (d + 1) m_Md_against 0 [xA 7 2, xI x1, xI x2, xI x3, xI x4] [] w1 (fun a w' => xWp (d + 2) m_Md_copies 66 [xA 7 2, xI x1, xI x2, xI x3, xI x4, xI x5, xU, xU] (x_pu a []) w' Q)) ∧ (¬ (p_wi x5 10 29) → Q (xI (-2)) w1))))) ∧ (¬ (p_wi x4 0 8) → Q (xI (-2)) w1))) ∧ (¬ (p_rg x2 0 2) → Q (xI (-2)) w1))) ∧ (¬ (p_rg x1 0 3) → Q (xI (-1)) w1)))) : xWp (d + 2) m_Md_copies 0 [xA 7 2, xI x1, xI x2, xI x3, xI x4, xI x5, xU, xU] [] w Q := by
  refine x_goN 2 (pc' := 2) (ls' := [xA 7 2, xI x1, xI x2, xI x3, xI x4, xI x5, xU, xU]) (st' := [xI 0, xA 7 2]) (w' := w) rfl ?_
  refine x_goW (pc' := 5) (ls' := [xA 7 2, xI x1, xI x2, xI x3, xI x4, xI x5, xU, xU]) (st' := []) (w' := x_set w 2 0 0) rfl (fun w1 ew1 => ?_)
  refine x_goN 1 (pc' := 6) (ls' := [xA 7 2, xI x1, xI x2, xI x3, xI x4, xI x5, xU, xU]) (st' := [xI x1]) (w' := w1) rfl ?_
  refine x_call (y := m_Md_isSheet) (as := [xI x1]) (rst := []) rfl [xI x1] rfl ?_
  refine S_Md_isSheet (fun c1 => ?_) (fun c1 => ?_)
  · skip
    refine x_goN 1 (pc' := if (1 : Int32) = (0 : Int32) then 12 else 14) (ls' := [xA 7 2, xI x1, xI x2, xI x3, xI x4, xI x5, xU, xU]) (st' := []) (w' := w1) rfl ?_
    refine x_brF (by decide) ?_
    refine x_goN 1 (pc' := 15) (ls' := [xA 7 2, xI x1, xI x2, xI x3, xI x4, xI x5, xU, xU]) (st' := [xI x2]) (w' := w1) rfl ?_
    refine x_call (y := m_Md_isSort) (as := [xI x2]) (rst := []) rfl [xI x2] rfl ?_
    refine S_Md_isSort (fun c2 => ?_) (fun c2 => ?_)
    · skip
      refine x_goN 1 (pc' := if (1 : Int32) = (0 : Int32) then 54 else 21) (ls' := [xA 7 2, xI x1, xI x2, xI x3, xI x4, xI x5, xU, xU]) (st' := []) (w' := w1) rfl ?_
      refine x_brF (by decide) ?_
      refine x_goN 3 (pc' := 26) (ls' := [xA 7 2, xI x1, xI x2, xI x3, xI x4, xI x5, xU, xU]) (st' := [xI 8, xI 0, xI x4]) (w' := w1) rfl ?_
      refine x_call (y := m_Md_within) (as := [xI x4, xI 0, xI 8]) (rst := []) rfl [xI x4, xI 0, xI 8] rfl ?_
      refine S_Md_within (fun c3 => ?_) (fun c3 => ?_)
      · skip
        refine x_goN 1 (pc' := if (1 : Int32) = (0 : Int32) then 54 else 32) (ls' := [xA 7 2, xI x1, xI x2, xI x3, xI x4, xI x5, xU, xU]) (st' := []) (w' := w1) rfl ?_
        refine x_brF (by decide) ?_
        refine x_goN 3 (pc' := 36) (ls' := [xA 7 2, xI x1, xI x2, xI x3, xI x4, xI x5, xU, xU]) (st' := [xI 1, xI 0, xI x5]) (w' := w1) rfl ?_
        refine x_call (y := m_Md_within) (as := [xI x5, xI 0, xI 1]) (rst := []) rfl [xI x5, xI 0, xI 1] rfl ?_
        refine S_Md_within (fun c4 => ?_) (fun c4 => ?_)
        · skip
          refine x_goN 1 (pc' := if (1 : Int32) = (0 : Int32) then 42 else 57) (ls' := [xA 7 2, xI x1, xI x2, xI x3, xI x4, xI x5, xU, xU]) (st' := []) (w' := w1) rfl ?_
          refine x_brF (by decide) ?_
          refine x_goN 5 (pc' := 63) (ls' := [xA 7 2, xI x1, xI x2, xI x3, xI x4, xI x5, xU, xU]) (st' := [xI x4, xI x3, xI x2, xI x1, xA 7 2]) (w' := w1) rfl ?_
          refine x_call (y := m_Md_against) (as := [xA 7 2, xI x1, xI x2, xI x3, xI x4]) (rst := []) rfl [xA 7 2, xI x1, xI x2, xI x3, xI x4] rfl ?_
          exact (((((h w1 ew1).1 c1).1 c2).1 c3).1 c4)
        · skip
          refine x_goN 1 (pc' := if (0 : Int32) = (0 : Int32) then 42 else 57) (ls' := [xA 7 2, xI x1, xI x2, xI x3, xI x4, xI x5, xU, xU]) (st' := []) (w' := w1) rfl ?_
          refine x_brT (by decide) ?_
          refine x_goN 3 (pc' := 48) (ls' := [xA 7 2, xI x1, xI x2, xI x3, xI x4, xI x5, xU, xU]) (st' := [xI 29, xI 10, xI x5]) (w' := w1) rfl ?_
          refine x_call (y := m_Md_within) (as := [xI x5, xI 10, xI 29]) (rst := []) rfl [xI x5, xI 10, xI 29] rfl ?_
          refine S_Md_within (fun c5 => ?_) (fun c5 => ?_)
          · skip
            refine x_goN 1 (pc' := if (1 : Int32) = (0 : Int32) then 54 else 57) (ls' := [xA 7 2, xI x1, xI x2, xI x3, xI x4, xI x5, xU, xU]) (st' := []) (w' := w1) rfl ?_
            refine x_brF (by decide) ?_
            refine x_goN 5 (pc' := 63) (ls' := [xA 7 2, xI x1, xI x2, xI x3, xI x4, xI x5, xU, xU]) (st' := [xI x4, xI x3, xI x2, xI x1, xA 7 2]) (w' := w1) rfl ?_
            refine x_call (y := m_Md_against) (as := [xA 7 2, xI x1, xI x2, xI x3, xI x4]) (rst := []) rfl [xA 7 2, xI x1, xI x2, xI x3, xI x4] rfl ?_
            exact ((((((h w1 ew1).1 c1).1 c2).1 c3).2 c4).1 c5)
          · skip
            refine x_goN 1 (pc' := if (0 : Int32) = (0 : Int32) then 54 else 57) (ls' := [xA 7 2, xI x1, xI x2, xI x3, xI x4, xI x5, xU, xU]) (st' := []) (w' := w1) rfl ?_
            refine x_brT (by decide) ?_
            refine x_goN 1 (pc' := 56) (ls' := [xA 7 2, xI x1, xI x2, xI x3, xI x4, xI x5, xU, xU]) (st' := [xI (-2)]) (w' := w1) rfl ?_
            exact x_ret (P := True) rfl trivial ((((((h w1 ew1).1 c1).1 c2).1 c3).2 c4).2 c5)
      · skip
        refine x_goN 1 (pc' := if (0 : Int32) = (0 : Int32) then 54 else 32) (ls' := [xA 7 2, xI x1, xI x2, xI x3, xI x4, xI x5, xU, xU]) (st' := []) (w' := w1) rfl ?_
        refine x_brT (by decide) ?_
        refine x_goN 1 (pc' := 56) (ls' := [xA 7 2, xI x1, xI x2, xI x3, xI x4, xI x5, xU, xU]) (st' := [xI (-2)]) (w' := w1) rfl ?_
        exact x_ret (P := True) rfl trivial ((((h w1 ew1).1 c1).1 c2).2 c3)
    · skip
      refine x_goN 1 (pc' := if (0 : Int32) = (0 : Int32) then 54 else 21) (ls' := [xA 7 2, xI x1, xI x2, xI x3, xI x4, xI x5, xU, xU]) (st' := []) (w' := w1) rfl ?_
      refine x_brT (by decide) ?_
      refine x_goN 1 (pc' := 56) (ls' := [xA 7 2, xI x1, xI x2, xI x3, xI x4, xI x5, xU, xU]) (st' := [xI (-2)]) (w' := w1) rfl ?_
      exact x_ret (P := True) rfl trivial (((h w1 ew1).1 c1).2 c2)
  · skip
    refine x_goN 1 (pc' := if (0 : Int32) = (0 : Int32) then 12 else 14) (ls' := [xA 7 2, xI x1, xI x2, xI x3, xI x4, xI x5, xU, xU]) (st' := []) (w' := w1) rfl ?_
    refine x_brT (by decide) ?_
    refine x_goN 1 (pc' := 13) (ls' := [xA 7 2, xI x1, xI x2, xI x3, xI x4, xI x5, xU, xU]) (st' := [xI (-1)]) (w' := w1) rfl ?_
    exact x_ret (P := True) rfl trivial ((h w1 ew1).2 c1)
theorem G_Md_copies_66 {d : Nat} {x1 : Int32} {x2 : Int32} {x3 : Int32} {x4 : Int32} {x5 : Int32} {s0 : Int32} {w : xWd} {Q : xMV → xWd → Prop} (h : ((s0 = 0 → xWp (d + 2) m_Md_copies 83 [xA 7 2, xI x1, xI x2, xI x3, xI x4, xI x5, xI s0, xI 0] [] w Q) ∧ (¬ (s0 = 0) → (∀ w1 : xWd, w1 = x_set w 2 0 s0 → Q (xI ((-10) - s0)) w1)))) : xWp (d + 2) m_Md_copies 66 [xA 7 2, xI x1, xI x2, xI x3, xI x4, xI x5, xU, xU] [xI s0] w Q := by
  refine x_goN 3 (pc' := if s0 = 0 then 80 else 73) (ls' := [xA 7 2, xI x1, xI x2, xI x3, xI x4, xI x5, xI s0, xU]) (st' := []) (w' := w) rfl ?_
  refine x_br (fun c1 => ?_) (fun c1 => ?_)
  · skip
    refine x_goN 2 (pc' := 83) (ls' := [xA 7 2, xI x1, xI x2, xI x3, xI x4, xI x5, xI s0, xI 0]) (st' := []) (w' := w) rfl ?_
    exact (h.1 c1)
  · skip
    refine x_goN 2 (pc' := 76) (ls' := [xA 7 2, xI x1, xI x2, xI x3, xI x4, xI x5, xI s0, xU]) (st' := [xI s0, xA 7 2]) (w' := w) rfl ?_
    refine x_call (y := m_Md_fails) (as := [xA 7 2, xI s0]) (rst := []) rfl [xA 7 2, xI s0] rfl ?_
    refine S_Md_fails (fun w1 ew1 => ?_)
    exact x_ret (P := True) rfl trivial ((h.2 c1) w1 ew1)
theorem G_Md_copies_83 {d : Nat} {x1 : Int32} {x2 : Int32} {x3 : Int32} {x4 : Int32} {x5 : Int32} {x6 : Int32} {x7 : Int32} {w : xWd} {Q : xMV → xWd → Prop} (h : ((x4 ≤ x7 → xWp (d + 1) m_Md_findMoves 0 [xA 7 2, xI x4, xU, xU, xU, xU, xU] [] w (fun a w' => xWp (d + 2) m_Md_copies 144 [xA 7 2, xI x1, xI x2, xI x3, xI x4, xI x5, xI x6, xI x7] (x_pu a []) w' Q)) ∧ (¬ (x4 ≤ x7) → (vp_in (((60 * x1) + x3) + x7) 240 ∧ (vp_in x7 9 ∧ ∀ w1 : xWd, w1 = x_set w 87 x7.toNatClampNeg (w 69 (((60 * x1) + x3) + x7).toNatClampNeg) → (vp_in x7 9 ∧ ((p_wi (w1 87 x7.toNatClampNeg) 0 (x4 - 1) → xWp (d + 2) m_Md_copies 83 [xA 7 2, xI x1, xI x2, xI x3, xI x4, xI x5, xI x6, xI (x7 + 1)] [] w1 Q) ∧ (¬ (p_wi (w1 87 x7.toNatClampNeg) 0 (x4 - 1)) → Q (xI (-2)) w1)))))))) : xWp (d + 2) m_Md_copies 83 [xA 7 2, xI x1, xI x2, xI x3, xI x4, xI x5, xI x6, xI x7] [] w Q := by
  refine x_goN 3 (pc' := if x4 ≤ x7 then 138 else 90) (ls' := [xA 7 2, xI x1, xI x2, xI x3, xI x4, xI x5, xI x6, xI x7]) (st' := []) (w' := w) rfl ?_
  refine x_br (fun c1 => ?_) (fun c1 => ?_)
  · skip
    refine x_goN 2 (pc' := 141) (ls' := [xA 7 2, xI x1, xI x2, xI x3, xI x4, xI x5, xI x6, xI x7]) (st' := [xI x4, xA 7 2]) (w' := w) rfl ?_
    refine x_call (y := m_Md_findMoves) (as := [xA 7 2, xI x4]) (rst := []) rfl [xA 7 2, xI x4, xU, xU, xU, xU, xU] rfl ?_
    exact (h.1 c1)
  · skip
    refine x_goN 12 (pc' := 109) (ls' := [xA 7 2, xI x1, xI x2, xI x3, xI x4, xI x5, xI x6, xI x7]) (st' := [xI (((60 * x1) + x3) + x7), xA 340 69, xI x7, xA 109 87]) (w' := w) rfl ?_
    refine x_ob (P := vp_in (((60 * x1) + x3) + x7) 240) (pc' := 110) (ls' := [xA 7 2, xI x1, xI x2, xI x3, xI x4, xI x5, xI x6, xI x7]) (st' := [xI (w 69 (((60 * x1) + x3) + x7).toNatClampNeg), xI x7, xA 109 87]) (w' := w) rfl (h.2 c1).1 ?_
    refine x_obW (P := vp_in x7 9) (pc' := 111) (ls' := [xA 7 2, xI x1, xI x2, xI x3, xI x4, xI x5, xI x6, xI x7]) (st' := []) (w' := x_set w 87 x7.toNatClampNeg (w 69 (((60 * x1) + x3) + x7).toNatClampNeg)) rfl (h.2 c1).2.1 (fun w1 ew1 => ?_)
    refine x_goN 3 (pc' := 117) (ls' := [xA 7 2, xI x1, xI x2, xI x3, xI x4, xI x5, xI x6, xI x7]) (st' := [xI x7, xA 109 87]) (w' := w1) rfl ?_
    refine x_ob (P := vp_in x7 9) (pc' := 118) (ls' := [xA 7 2, xI x1, xI x2, xI x3, xI x4, xI x5, xI x6, xI x7]) (st' := [xI (w1 87 x7.toNatClampNeg)]) (w' := w1) rfl ((h.2 c1).2.2 w1 ew1).1 ?_
    refine x_goN 4 (pc' := 123) (ls' := [xA 7 2, xI x1, xI x2, xI x3, xI x4, xI x5, xI x6, xI x7]) (st' := [xI (x4 - 1), xI 0, xI (w1 87 x7.toNatClampNeg)]) (w' := w1) rfl ?_
    refine x_call (y := m_Md_within) (as := [xI (w1 87 x7.toNatClampNeg), xI 0, xI (x4 - 1)]) (rst := []) rfl [xI (w1 87 x7.toNatClampNeg), xI 0, xI (x4 - 1)] rfl ?_
    refine S_Md_within (fun c2 => ?_) (fun c2 => ?_)
    · skip
      refine x_goN 1 (pc' := if (1 : Int32) = (0 : Int32) then 129 else 132) (ls' := [xA 7 2, xI x1, xI x2, xI x3, xI x4, xI x5, xI x6, xI x7]) (st' := []) (w' := w1) rfl ?_
      refine x_brF (by decide) ?_
      refine x_goN 2 (pc' := 83) (ls' := [xA 7 2, xI x1, xI x2, xI x3, xI x4, xI x5, xI x6, xI (x7 + 1)]) (st' := []) (w' := w1) rfl ?_
      exact (((h.2 c1).2.2 w1 ew1).2.1 c2)
    · skip
      refine x_goN 1 (pc' := if (0 : Int32) = (0 : Int32) then 129 else 132) (ls' := [xA 7 2, xI x1, xI x2, xI x3, xI x4, xI x5, xI x6, xI x7]) (st' := []) (w' := w1) rfl ?_
      refine x_brT (by decide) ?_
      refine x_goN 1 (pc' := 131) (ls' := [xA 7 2, xI x1, xI x2, xI x3, xI x4, xI x5, xI x6, xI x7]) (st' := [xI (-2)]) (w' := w1) rfl ?_
      exact x_ret (P := True) rfl trivial (((h.2 c1).2.2 w1 ew1).2.2 c2)
theorem G_Md_copies_144 {d : Nat} {x1 : Int32} {x2 : Int32} {x3 : Int32} {x4 : Int32} {x5 : Int32} {x6 : Int32} {x7 : Int32} {w : xWd} {Q : xMV → xWd → Prop} (h : ((x5 = 0 → Q (xI (w 2 24)) w) ∧ (¬ (x5 = 0) → ((x5 = 1 → Q (xI (w 2 25)) w) ∧ (¬ (x5 = 1) → ((w 2 24 ≤ x5 - 10 → Q (xI (-9)) w) ∧ (¬ (w 2 24 ≤ x5 - 10) → (vp_in (x5 - 10) 20 ∧ Q (xI (w 88 (x5 - 10).toNatClampNeg)) w)))))))) : xWp (d + 2) m_Md_copies 144 [xA 7 2, xI x1, xI x2, xI x3, xI x4, xI x5, xI x6, xI x7] [] w Q := by
  refine x_goN 2 (pc' := if x5 = 0 then 149 else 156) (ls' := [xA 7 2, xI x1, xI x2, xI x3, xI x4, xI x5, xI x6, xI x7]) (st' := []) (w' := w) rfl ?_
  refine x_br (fun c1 => ?_) (fun c1 => ?_)
  · skip
    refine x_goN 3 (pc' := 196) (ls' := [xA 7 2, xI x1, xI x2, xI x3, xI x4, xI x5, xI x6, xI x7]) (st' := [xI (w 2 24)]) (w' := w) rfl ?_
    exact x_ret (P := True) rfl trivial (h.1 c1)
  · skip
    refine x_goN 3 (pc' := if x5 = 1 then 162 else 169) (ls' := [xA 7 2, xI x1, xI x2, xI x3, xI x4, xI x5, xI x6, xI x7]) (st' := []) (w' := w) rfl ?_
    refine x_br (fun c2 => ?_) (fun c2 => ?_)
    · skip
      refine x_goN 3 (pc' := 196) (ls' := [xA 7 2, xI x1, xI x2, xI x3, xI x4, xI x5, xI x6, xI x7]) (st' := [xI (w 2 25)]) (w' := w) rfl ?_
      exact x_ret (P := True) rfl trivial ((h.2 c1).1 c2)
    · skip
      refine x_goN 6 (pc' := if w 2 24 ≤ x5 - 10 then 194 else 181) (ls' := [xA 7 2, xI x1, xI x2, xI x3, xI x4, xI x5, xI x6, xI x7]) (st' := []) (w' := w) rfl ?_
      refine x_br (fun c3 => ?_) (fun c3 => ?_)
      · skip
        refine x_goN 1 (pc' := 196) (ls' := [xA 7 2, xI x1, xI x2, xI x3, xI x4, xI x5, xI x6, xI x7]) (st' := [xI (-9)]) (w' := w) rfl ?_
        exact x_ret (P := True) rfl trivial (((h.2 c1).2 c2).1 c3)
      · skip
        refine x_goN 5 (pc' := 190) (ls' := [xA 7 2, xI x1, xI x2, xI x3, xI x4, xI x5, xI x6, xI x7]) (st' := [xI (x5 - 10), xA 120 88]) (w' := w) rfl ?_
        refine x_ob (P := vp_in (x5 - 10) 20) (pc' := 191) (ls' := [xA 7 2, xI x1, xI x2, xI x3, xI x4, xI x5, xI x6, xI x7]) (st' := [xI (w 88 (x5 - 10).toNatClampNeg)]) (w' := w) rfl (((h.2 c1).2 c2).2 c3).1 ?_
        refine x_goN 1 (pc' := 196) (ls' := [xA 7 2, xI x1, xI x2, xI x3, xI x4, xI x5, xI x6, xI x7]) (st' := [xI (w 88 (x5 - 10).toNatClampNeg)]) (w' := w) rfl ?_
        exact x_ret (P := True) rfl trivial (((h.2 c1).2 c2).2 c3).2
theorem L_Md_copies {q i n : Nat} {s : xS} {w0 : xWd} {Q : xMV → xWd → Prop} {x2 x5 x6 : Int32} (h : sM s w0) (hq : q < 4) (hi : i + n ≤ 60) (hn : n ≤ 8) (hx : (0 ≤ x5.toInt ∧ x5.toInt ≤ 1) ∨ (10 ≤ x5.toInt ∧ x5.toInt ≤ 29)) (h1 : gTo n (fun j => s_c s q (i + j)) → ∀ w', sM s w' → fM w0 w' → Q (xI (cAns (gEnd n (fun j => s_c s q (i + j))) x5)) w') (h2 : ¬ gTo n (fun j => s_c s q (i + j)) → ∀ w', sM s w' → fM w0 w' → Q (xI (-2)) w') : ∀ (m t : Nat) (w : xWd), t + m = n → fMv w0 w → (∀ p, p < t → (∃ v, v < n ∧ s_c s q (i + p) = nI v) ∧ w 87 p = nI (gF (fun j => s_c s q (i + j)) p)) → xWp 6 m_Md_copies 83 [xA 7 2, xI (nI q), xI x2, xI (nI i), xI (nI n), xI x5, xI x6, xI (nI t)] [] w Q := by
  intro m
  induction m with
  | zero =>
    intro t w ht hf hv
    have e : t = n := by omega
    subst e
    have hto : gTo t (fun j => s_c s q (i + j)) := fun j hj => (hv j hj).1
    refine G_Md_copies_83 ⟨fun _ => ?_, fun c => absurd ((z_le (by omega) (by omega)).mpr (Nat.le_refl _)) c⟩
    refine G_Md_findMoves_0 (fun w1 e1 w2 e2 => ?_)
    have f2 : fMv w0 w2 := fMv_tr hf (fMv_tr (fMv_2 (Or.inl rfl) e1) (fMv_2 (Or.inr rfl) e2))
    have hmu := g_mu_le hn (gF (fun j => s_c s q (i + j)))
    have hG : mMv w2 t (gF (fun j => s_c s q (i + j)), 0, 0, fun _ => 0) := by
      refine ⟨?_, ?_, fun p hp => ?_, fun j hj => absurd hj (Nat.not_lt_zero _)⟩
      · rw [e2, x_set_s, upd_o (by decide), e1, x_set_s, upd_s]; rfl
      · rw [e2, x_set_s, upd_s]; rfl
      · rw [e2, x_set_o (by decide), e1, x_set_o (by decide)]; exact (hv p hp).2
    refine L_Md_findMoves (w0 := w0) hn 17 (gF (fun j => s_c s q (i + j)), 0, 0, fun _ => 0) w2 hmu (by show 0 + g_mu t (gF (fun j => s_c s q (i + j))) ≤ 17; omega) (gTo_in hn hto) f2 hG (fun w6 f6 hG6 => ?_)
    have hM := sM_fMv h f6
    have hle := gEnd_le hn hto
    have K := h1 hto w6 hM.1 hM.2
    obtain ⟨b4, b5, b6, b7⟩ := hG6
    have b4' : w6 2 24 = nI (gEnd t (fun j => s_c s q (i + j))).2.1 := b4
    have b5' : w6 2 25 = nI (gEnd t (fun j => s_c s q (i + j))).2.2.1 := b5
    unfold cAns at K
    refine G_Md_copies_144 ⟨fun c => ?_, fun c0 => ⟨fun c => ?_, fun c1 => ?_⟩⟩
    · rw [if_pos c] at K
      rw [b4']; exact K
    · rw [if_neg c0, if_pos c] at K
      rw [b5']; exact K
    · rw [if_neg c0, if_neg c1] at K
      rw [fa_eq, e_l0] at c0
      rw [fa_eq, e_l1] at c1
      obtain ⟨j, hj, ej⟩ := z_1029 (x := x5) (by omega) (by omega)
      rw [ej, z_cl' (by omega)] at K
      rw [ej, b4', z_le (by omega) (by omega), z_cl' (by omega)]
      refine ⟨fun c => ?_, fun c => ⟨z_in (by omega) (by decide), ?_⟩⟩
      · rw [if_neg (by omega)] at K; exact K
      · rw [if_pos (by omega)] at K
        have b7' : w6 88 j = nI ((gEnd t (fun j => s_c s q (i + j))).2.2.2 j) := b7 j (by show j < (gEnd t (fun j => s_c s q (i + j))).2.1; omega)
        rw [b7']; exact K
  | succ m ih =>
    intro t w ht hf hv
    have hlt : t < n := by omega
    have c0 : w 69 (60 * q + i + t) = s_c s q (i + t) := by
      rw [hf.1 69 (by decide) (by decide) (by decide), ← (h.2.1 q hq).2.2 (i + t) (by omega)]; congr 1; omega
    refine G_Md_copies_83 ?_
    rw [z_60, nI_add, z_cl' (show 60 * q + i + t < 2 ^ 31 by omega), z_cl' (show t < 2 ^ 31 by omega), c0]
    refine ⟨fun c => absurd ((z_le (by omega) (by omega)).mp c) (by omega), fun _ => ⟨z_in (by omega) (by decide), z_in (by omega) (by decide), fun w1 e1 => ⟨z_in (by omega) (by decide), ?_⟩⟩⟩
    have f1 : fMv w0 w1 := fMv_tr hf (fMv_s (Or.inl rfl) e1)
    have k1 : w1 87 t = s_c s q (i + t) := by rw [e1, x_set_s, upd_s]
    rw [k1, nI_1]
    refine ⟨fun c => ?_, fun c => ?_⟩
    · obtain ⟨v, ev, hvn⟩ := (z_wi (b := 0) (by omega)).mp c
      refine ih (t + 1) w1 (by omega) f1 (fun p hp => ?_)
      by_cases ep : p = t
      · subst ep
        refine ⟨⟨v, hvn, ev⟩, ?_⟩
        rw [k1, ev, gF_v (F := fun j => s_c s q (i + j)) (by omega) ev]
      · rw [e1, x_set_s, upd_o ep]; exact hv p (by omega)
    · have hM := sM_fMv h f1
      refine h2 (fun hh => c ?_) w1 hM.1 hM.2
      obtain ⟨v, hv1, hv2⟩ := hh t hlt
      exact (z_wi (b := 0) (by omega)).mpr ⟨v, hv2, hv1⟩
theorem O_copies (s : xS) (x1 x2 x3 x4 x5 : Int32) : oB m_Vp_copies [xA 6 1, xI x1, xI x2, xI x3, xI x4, xI x5, xU] m_Md_copies [xA 7 2, xI x1, xI x2, xI x3, xI x4, xI x5, xU, xU] s := by
  have e8 : p_wi x4 0 8 ↔ 0 ≤ x4.toInt ∧ x4.toInt ≤ 8 := by unfold p_wi; rw [e_l0, e_l8]
  have e01 : p_wi x5 0 1 ↔ 0 ≤ x5.toInt ∧ x5.toInt ≤ 1 := by unfold p_wi; rw [e_l0, e_l1]
  have e1029 : p_wi x5 10 29 ↔ 10 ≤ x5.toInt ∧ x5.toInt ≤ 29 := by unfold p_wi; rw [e_l10, show (29 : Int32).toInt = 29 from rfl]
  have eq1 : p_q1 x5 ↔ (0 ≤ x5.toInt ∧ x5.toInt ≤ 1) ∨ (10 ≤ x5.toInt ∧ x5.toInt ≤ 29) := Iff.rfl
  have lt0 : x4 < 0 ↔ x4.toInt < 0 := by rw [fa_lt, e_l0]
  have lt8 : 8 < x4 ↔ 8 < x4.toInt := by rw [fa_lt, e_l8]
  by_cases hp : p_rg x1 0 3
  · by_cases hl : p_rg x2 0 2
    · by_cases hn : 0 ≤ x4.toInt ∧ x4.toInt ≤ 8
      · by_cases hq : (0 ≤ x5.toInt ∧ x5.toInt ≤ 1) ∨ (10 ≤ x5.toInt ∧ x5.toInt ≤ 29)
        · obtain ⟨q, hq4, rfl⟩ := rg3.mp hp
          obtain ⟨n, rfl, en, -⟩ := z_of hn.1
          have hn8 : n ≤ 8 := by omega
          have hin : vp_in (nI q) 4 := z_in hq4 (by decide)
          have hC : ∀ (w : xWd) (Q : xMV → xWd → Prop), sC s w → (∀ w1, sC (uF s 0) w1 → fC w w1 → xWp 6 m_Vp_copies 57 [xA 6 1, xI (nI q), xI x2, xI x3, xI (nI n), xI x5, xU] [xI (nI (vFa (s_r s q) (s_n s q) x2 x3 (nI n)))] w1 Q) → xWp 6 m_Vp_copies 0 [xA 6 1, xI (nI q), xI x2, xI x3, xI (nI n), xI x5, xU] [] w Q := by
            intro w Q h K
            have hb := h.1.1 q hq4
            refine G_Vp_copies_0 (fun w1 e1 => ?_)
            have g1 := sC_f h e1
            rw [z_ad hq4, lt0, lt8, eq1]
            exact ⟨fun _ => ⟨fun _ => ⟨fun c => by omega, fun _ => ⟨fun c => by omega, fun _ => ⟨fun _ => ⟨hin, S_Sh_faultOfCells (g1.1.2.1 q hq4) hb.1 hb.2 (K w1 g1.1 g1.2)⟩, fun c => absurd hq c⟩⟩⟩, fun c => absurd hl c⟩, fun c => absurd hp c⟩
          have hM : ∀ (w : xWd) (Q : xMV → xWd → Prop), sM s w → (∀ w1, sM (uF s 0) w1 → fM w w1 → xWp 6 m_Md_copies 66 [xA 7 2, xI (nI q), xI x2, xI x3, xI (nI n), xI x5, xU, xU] [xI (nI (vFa (s_r s q) (s_n s q) x2 x3 (nI n)))] w1 Q) → xWp 6 m_Md_copies 0 [xA 7 2, xI (nI q), xI x2, xI x3, xI (nI n), xI x5, xU, xU] [] w Q := by
            intro w Q h K
            have hb := h.1.1 q hq4
            refine G_Md_copies_0 (fun w1 e1 => ?_)
            have g1 := sM_f h e1
            have K' : xWp 5 m_Md_against 0 [xA 7 2, xI (nI q), xI x2, xI x3, xI (nI n)] [] w1 (fun a w' => xWp 6 m_Md_copies 66 [xA 7 2, xI (nI q), xI x2, xI x3, xI (nI n), xI x5, xU, xU] (x_pu a []) w' Q) :=
              S_Md_against hq4 (g1.1.2.1 q hq4) hb.1 hb.2 (K w1 g1.1 g1.2)
            rw [e8, e01, e1029]
            exact ⟨fun _ => ⟨fun _ => ⟨fun _ => ⟨fun _ => K', fun _ => ⟨fun _ => K', fun c => by omega⟩⟩, fun c => absurd hn c⟩, fun c => absurd hl c⟩, fun c => absurd hp c⟩
          by_cases hv : vFa (s_r s q) (s_n s q) x2 x3 (nI n) = 0
          · obtain ⟨hr, i, rfl, hi⟩ := vFa_in (by omega) hv
            by_cases ht : gTo n (fun j => s_c s q (i + j))
            · refine ⟨(cAns (gEnd n (fun j => s_c s q (i + j))) x5), uF s 0, fun w h => hC w _ h (fun w1 h1 f1 => ?_), fun w h => hM w _ h (fun w1 h1 f1 => ?_)⟩
              · rw [hv]
                exact C_copies (s := uF s 0) h1 hq4 hr hi hn8 hq (fun _ w' h' f' => ⟨rfl, h', fC_tr f1 f'⟩) (fun c => absurd ht c)
              · rw [hv]
                have hb := (h.1.1 q hq4).2
                refine G_Md_copies_66 ⟨fun _ => ?_, fun c => absurd rfl c⟩
                exact L_Md_copies (s := uF s 0) h1 hq4 (by omega) hn8 hq (fun _ w' h' f' => ⟨rfl, h', fM_tr f1 f'⟩) (fun c => absurd ht c) n 0 w1 (Nat.zero_add _) (fMv_rf w1) (fun p hp => absurd hp (Nat.not_lt_zero _))
            · refine ⟨(-2), uF s 0, fun w h => hC w _ h (fun w1 h1 f1 => ?_), fun w h => hM w _ h (fun w1 h1 f1 => ?_)⟩
              · rw [hv]
                exact C_copies (s := uF s 0) h1 hq4 hr hi hn8 hq (fun c => absurd c ht) (fun _ w' h' f' => ⟨rfl, h', fC_tr f1 f'⟩)
              · rw [hv]
                have hb := (h.1.1 q hq4).2
                refine G_Md_copies_66 ⟨fun _ => ?_, fun c => absurd rfl c⟩
                exact L_Md_copies (s := uF s 0) h1 hq4 (by omega) hn8 hq (fun c => absurd c ht) (fun _ w' h' f' => ⟨rfl, h', fM_tr f1 f'⟩) n 0 w1 (Nat.zero_add _) (fMv_rf w1) (fun p hp => absurd hp (Nat.not_lt_zero _))
          · have h4 := vFa_4 (s_r s q) (s_n s q) x2 x3 (nI n)
            refine ⟨((-10) - nI (vFa (s_r s q) (s_n s q) x2 x3 (nI n))), uF s (nI (vFa (s_r s q) (s_n s q) x2 x3 (nI n))), fun w h => hC w _ h (fun w1 h1 f1 => ?_), fun w h => hM w _ h (fun w1 h1 f1 => ?_)⟩
            · refine G_Vp_copies_57 ⟨fun c => absurd ((z_eq0 (by omega)).mp c) hv, fun _ w2 e2 => ?_⟩
              have g2 := sC_f h1 e2
              exact cF g2.1 (fC_tr f1 g2.2)
            · refine G_Md_copies_66 ⟨fun c => absurd ((z_eq0 (by omega)).mp c) hv, fun _ w2 e2 => ?_⟩
              have g2 := sM_f h1 e2
              exact mF g2.1 (fM_tr f1 g2.2)
        · refine ⟨(-2), uF s 0, fun w h => G_Vp_copies_0 (fun w1 e1 => ?_), fun w h => G_Md_copies_0 (fun w1 e1 => ?_)⟩
          · have g1 := sC_f h e1
            rw [eq1]
            exact ⟨fun _ => ⟨fun _ => ⟨fun _ => cF g1.1 g1.2, fun _ => ⟨fun _ => cF g1.1 g1.2, fun _ => ⟨fun c => absurd c hq, fun _ => cF g1.1 g1.2⟩⟩⟩, fun _ => cF g1.1 g1.2⟩, fun c => absurd hp c⟩
          · have g1 := sM_f h e1
            rw [e01, e1029]
            exact ⟨fun _ => ⟨fun _ => ⟨fun _ => ⟨fun c => absurd (Or.inl c) hq, fun _ => ⟨fun c => absurd (Or.inr c) hq, fun _ => mF g1.1 g1.2⟩⟩, fun _ => mF g1.1 g1.2⟩, fun _ => mF g1.1 g1.2⟩, fun c => absurd hp c⟩
      · refine ⟨(-2), uF s 0, fun w h => G_Vp_copies_0 (fun w1 e1 => ?_), fun w h => G_Md_copies_0 (fun w1 e1 => ?_)⟩
        · have g1 := sC_f h e1
          rw [lt0, lt8]
          exact ⟨fun _ => ⟨fun _ => ⟨fun _ => cF g1.1 g1.2, fun _ => ⟨fun _ => cF g1.1 g1.2, fun _ => by omega⟩⟩, fun _ => cF g1.1 g1.2⟩, fun c => absurd hp c⟩
        · have g1 := sM_f h e1
          rw [e8]
          exact ⟨fun _ => ⟨fun _ => ⟨fun c => absurd c hn, fun _ => mF g1.1 g1.2⟩, fun _ => mF g1.1 g1.2⟩, fun c => absurd hp c⟩
    · exact ⟨(-2), uF s 0, fun w h => G_Vp_copies_0 (fun w1 e1 => ⟨fun _ => ⟨fun c => absurd c hl, fun _ => cF (sC_f h e1).1 (sC_f h e1).2⟩, fun c => absurd hp c⟩), fun w h => G_Md_copies_0 (fun w1 e1 => ⟨fun _ => ⟨fun c => absurd c hl, fun _ => mF (sM_f h e1).1 (sM_f h e1).2⟩, fun c => absurd hp c⟩)⟩
  · exact ⟨(-1), uF s 0, fun w h => G_Vp_copies_0 (fun w1 e1 => ⟨fun c => absurd c hp, fun _ => cF (sC_f h e1).1 (sC_f h e1).2⟩), fun w h => G_Md_copies_0 (fun w1 e1 => ⟨fun c => absurd c hp, fun _ => mF (sM_f h e1).1 (sM_f h e1).2⟩)⟩

