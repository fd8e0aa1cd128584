/-! CALLS OF BOTH SIDES: the same answer, the same state -/
def oC (k : Nat) (ls : List xMV) (s : xS) (r : xMV) (s' : xS) : Prop := ∀ w, sC s w → xWp 6 k 0 ls [] w (fun a w' => a = r ∧ sC s' w' ∧ fC w w')
def oM (k : Nat) (ls : List xMV) (s : xS) (r : xMV) (s' : xS) : Prop := ∀ w, sM s w → xWp 6 k 0 ls [] w (fun a w' => a = r ∧ sM s' w' ∧ fM w w')
def oB (kc : Nat) (lc : List xMV) (km : Nat) (lm : List xMV) (s : xS) : Prop := ∃ (r : Int32) (s' : xS), oC kc lc s (xI r) s' ∧ oM km lm s (xI r) s'
def oBJ (kc : Nat) (lc : List xMV) (km : Nat) (lm : List xMV) (s : xS) : Prop := ∃ (r : Int64) (s' : xS), oC kc lc s (xJ r) s' ∧ oM km lm s (xJ r) s'
theorem cE {s : xS} {w : xWd} {r : xMV} (h : sC s w) : r = r ∧ sC s w ∧ fC w w := ⟨rfl, h, fC_rf w⟩
theorem mE {s : xS} {w : xWd} {r : xMV} (h : sM s w) : r = r ∧ sM s w ∧ fM w w := ⟨rfl, h, fM_rf w⟩
theorem cEe {s : xS} {w : xWd} {r r' : xMV} (e : r = r') (h : sC s w) : r = r' ∧ sC s w ∧ fC w w := ⟨e, h, fC_rf w⟩
theorem mEe {s : xS} {w : xWd} {r r' : xMV} (e : r = r') (h : sM s w) : r = r' ∧ sM s w ∧ fM w w := ⟨e, h, fM_rf w⟩
/-- all that the model's state is told by -/
def fN (w w' : xWd) : Prop := ∀ a, (a = 2 ∨ (67 ≤ a ∧ a ≤ 74) ∨ a = 92 ∨ a = 93) → w' a = w a
theorem sM_fN {s : xS} {w w' : xWd} (h : sM s w) (hf : fN w w') : sM s w' := by
  obtain ⟨h1, h2, h3, h4, h5, h6⟩ := h
  have e2 := hf 2 (by omega)
  refine ⟨h1, fun k hk => ?_, ?_, ?_, by rw [e2]; exact h5, by rw [e2]; exact h6⟩
  · unfold mSh; rw [hf 67 (by omega), hf 68 (by omega), hf 69 (by omega)]; exact h2 k hk
  · unfold tM; rw [e2, hf 71 (by omega), hf 72 (by omega), hf 73 (by omega), hf 74 (by omega)]; exact h3
  · unfold mRd; rw [e2, hf 92 (by omega), hf 93 (by omega)]; exact h4
theorem cG_E {s : xS} {w w' : xWd} {r : xMV} {T : xT} {k : Nat} (h : sC s w) (g : cG 34 T w w' k) : r = r ∧ sC s w' ∧ fC w w' := ⟨rfl, sC_fS h (fun a ha => g.1 a (by omega)), fun a ha => g.1 a (by omega)⟩
theorem cH_E {s : xS} {w w' : xWd} {r : xMV} {T : xT} {k : Nat} (h : sM s w) (g : cH T w w' k) : r = r ∧ sM s w' ∧ fM w w' := ⟨rfl, sM_fN h (fun a ha => g.1 a (by omega)), fun a ha hb => g.1 a (by omega)⟩
/-- x names a line -/
def pL (T : xT) (x : Int32) : Prop := ∃ j, j < tn T ∧ x = nI j
theorem pL_C {s : xS} {w : xWd} {x : Int32} (h : sC s w) : p_lt x (w 34 8) ↔ pL (s_T s) x := ⟨fun c => tR_ln (sC_R h) c, fun ⟨j, hj, e⟩ => by rw [e]; exact tR_lt (sC_R h) hj⟩
theorem pL_M {s : xS} {w : xWd} {x : Int32} (h : sM s w) : p_lt x (w 2 5) ↔ pL (s_T s) x := ⟨fun c => tS_ln (sM_S h) c, fun ⟨j, hj, e⟩ => by rw [e]; exact tS_lt (sM_S h) hj⟩
theorem sC_n {s : xS} {w : xWd} (h : sC s w) : w 34 8 = nI (tn (s_T s)) := h.2.2.1.1
theorem sM_n {s : xS} {w : xWd} (h : sM s w) : w 2 5 = nI (tn (s_T s)) := h.2.2.1.1
theorem s_n8 {s : xS} (h : sOk s) : tn (s_T s) ≤ 8 := h.2.1.1.1
theorem G_Vp_fault_0 {d : Nat} {w : xWd} {Q : xMV → xWd → Prop} (h : Q (xI (w 1 8)) w) : xWp d m_Vp_fault 0 [xA 6 1] [] w Q := by
  refine x_goN 2 (pc' := 4) (ls' := [xA 6 1]) (st' := [xI (w 1 8)]) (w' := w) rfl ?_
  exact x_ret (P := True) rfl trivial h
theorem G_Md_fault_0 {d : Nat} {w : xWd} {Q : xMV → xWd → Prop} (h : Q (xI (w 2 0)) w) : xWp d m_Md_fault 0 [xA 7 2] [] w Q := by
  refine x_goN 2 (pc' := 4) (ls' := [xA 7 2]) (st' := [xI (w 2 0)]) (w' := w) rfl ?_
  exact x_ret (P := True) rfl trivial h
theorem O_fault (s : xS) : oB m_Vp_fault [xA 6 1] m_Md_fault [xA 7 2] s :=
  ⟨(s_f s), s, fun w h => G_Vp_fault_0 (cEe (by rw [h.2.2.2.2.2]) h), fun w h => G_Md_fault_0 (mEe (by rw [h.2.2.2.2.2]) h)⟩
theorem G_Vp_trace_0 {d : Nat} {w : xWd} {Q : xMV → xWd → Prop} (h : Q (xI (w 1 7)) w) : xWp d m_Vp_trace 0 [xA 6 1] [] w Q := by
  refine x_goN 2 (pc' := 4) (ls' := [xA 6 1]) (st' := [xI (w 1 7)]) (w' := w) rfl ?_
  exact x_ret (P := True) rfl trivial h
theorem G_Md_trace_0 {d : Nat} {w : xWd} {Q : xMV → xWd → Prop} (h : Q (xI (w 2 1)) w) : xWp d m_Md_trace 0 [xA 7 2] [] w Q := by
  refine x_goN 2 (pc' := 4) (ls' := [xA 7 2]) (st' := [xI (w 2 1)]) (w' := w) rfl ?_
  exact x_ret (P := True) rfl trivial h
theorem O_trace (s : xS) : oB m_Vp_trace [xA 6 1] m_Md_trace [xA 7 2] s :=
  ⟨(s_t s), s, fun w h => G_Vp_trace_0 (cEe (by rw [h.2.2.2.2.1]) h), fun w h => G_Md_trace_0 (mEe (by rw [h.2.2.2.2.1]) h)⟩
theorem G_Vp_used_0 {d : Nat} {T : xT} {x1 : Int32} {x2 : Int32} {w : xWd} {Q : xMV → xWd → Prop} (h : ((tR w 34 T) ∧ ((pP T x1 x2 → ((tR w 34 T) ∧ Q (xI (vUs T x1 x2)) w)) ∧ (¬ (pP T x1 x2) → Q (xI (-1)) w)))) : xWp (d + 3) m_Vp_used 0 [xA 6 1, xI x1, xI x2] [] w Q := by
  refine x_goN 4 (pc' := 6) (ls' := [xA 6 1, xI x1, xI x2]) (st' := [xI x2, xI x1, xA 5 34]) (w' := w) rfl ?_
  refine x_call (y := m_Tr_hasPlace) (as := [xA 5 34, xI x1, xI x2]) (rst := []) rfl [xA 5 34, xI x1, xI x2] rfl ?_
  refine S_Tr_hasPlace h.1 (fun c1 => ?_) (fun c1 => ?_)
  · skip
    refine x_goN 1 (pc' := if (1 : Int32) = (0 : Int32) then 24 else 12) (ls' := [xA 6 1, xI x1, xI x2]) (st' := []) (w' := w) rfl ?_
    refine x_brF (by decide) ?_
    refine x_goN 4 (pc' := 18) (ls' := [xA 6 1, xI x1, xI x2]) (st' := [xI x2, xI x1, xA 5 34]) (w' := w) rfl ?_
    refine x_call (y := m_Tr_usedIn) (as := [xA 5 34, xI x1, xI x2]) (rst := []) rfl [xA 5 34, xI x1, xI x2] rfl ?_
    refine S_Tr_usedIn (h.2.1 c1).1 ?_
    refine x_goN 1 (pc' := 25) (ls' := [xA 6 1, xI x1, xI x2]) (st' := [xI (vUs T x1 x2)]) (w' := w) rfl ?_
    exact x_ret (P := True) rfl trivial (h.2.1 c1).2
  · skip
    refine x_goN 1 (pc' := if (0 : Int32) = (0 : Int32) then 24 else 12) (ls' := [xA 6 1, xI x1, xI x2]) (st' := []) (w' := w) rfl ?_
    refine x_brT (by decide) ?_
    refine x_goN 1 (pc' := 25) (ls' := [xA 6 1, xI x1, xI x2]) (st' := [xI (-1)]) (w' := w) rfl ?_
    exact x_ret (P := True) rfl trivial (h.2.2 c1)
theorem G_Md_used_0 {d : Nat} {x1 : Int32} {x2 : Int32} {w : xWd} {Q : xMV → xWd → Prop} (h : ((p_lt x1 (w 2 5) → (vp_in x1 8 ∧ ((p_wi x2 0 ((w 73 x1.toNatClampNeg) - 1) → (vp_in ((2 * x1) + x2) 16 ∧ Q (xI (w 74 ((2 * x1) + x2).toNatClampNeg)) w)) ∧ (¬ (p_wi x2 0 ((w 73 x1.toNatClampNeg) - 1)) → Q (xI (-1)) w)))) ∧ (¬ (p_lt x1 (w 2 5)) → Q (xI (-1)) w))) : xWp (d + 1) m_Md_used 0 [xA 7 2, xI x1, xI x2] [] w Q := by
  refine x_goN 2 (pc' := 2) (ls' := [xA 7 2, xI x1, xI x2]) (st' := [xI x1, xA 7 2]) (w' := w) rfl ?_
  refine x_call (y := m_Md_isLine) (as := [xA 7 2, xI x1]) (rst := []) rfl [xA 7 2, xI x1] rfl ?_
  refine S_Md_isLine (fun c1 => ?_) (fun c1 => ?_)
  · skip
    refine x_goN 1 (pc' := if (1 : Int32) = (0 : Int32) then 37 else 8) (ls' := [xA 7 2, xI x1, xI x2]) (st' := []) (w' := w) rfl ?_
    refine x_brF (by decide) ?_
    refine x_goN 5 (pc' := 15) (ls' := [xA 7 2, xI x1, xI x2]) (st' := [xI x1, xA 108 73, xI 0, xI x2]) (w' := w) rfl ?_
    refine x_ob (P := vp_in x1 8) (pc' := 16) (ls' := [xA 7 2, xI x1, xI x2]) (st' := [xI (w 73 x1.toNatClampNeg), xI 0, xI x2]) (w' := w) rfl (h.1 c1).1 ?_
    refine x_goN 2 (pc' := 18) (ls' := [xA 7 2, xI x1, xI x2]) (st' := [xI ((w 73 x1.toNatClampNeg) - 1), xI 0, xI x2]) (w' := w) rfl ?_
    refine x_call (y := m_Md_within) (as := [xI x2, xI 0, xI ((w 73 x1.toNatClampNeg) - 1)]) (rst := []) rfl [xI x2, xI 0, xI ((w 73 x1.toNatClampNeg) - 1)] rfl ?_
    refine S_Md_within (fun c2 => ?_) (fun c2 => ?_)
    · skip
      refine x_goN 1 (pc' := if (1 : Int32) = (0 : Int32) then 37 else 24) (ls' := [xA 7 2, xI x1, xI x2]) (st' := []) (w' := w) rfl ?_
      refine x_brF (by decide) ?_
      refine x_goN 7 (pc' := 33) (ls' := [xA 7 2, xI x1, xI x2]) (st' := [xI ((2 * x1) + x2), xA 116 74]) (w' := w) rfl ?_
      refine x_ob (P := vp_in ((2 * x1) + x2) 16) (pc' := 34) (ls' := [xA 7 2, xI x1, xI x2]) (st' := [xI (w 74 ((2 * x1) + x2).toNatClampNeg)]) (w' := w) rfl ((h.1 c1).2.1 c2).1 ?_
      refine x_goN 1 (pc' := 38) (ls' := [xA 7 2, xI x1, xI x2]) (st' := [xI (w 74 ((2 * x1) + x2).toNatClampNeg)]) (w' := w) rfl ?_
      exact x_ret (P := True) rfl trivial ((h.1 c1).2.1 c2).2
    · skip
      refine x_goN 1 (pc' := if (0 : Int32) = (0 : Int32) then 37 else 24) (ls' := [xA 7 2, xI x1, xI x2]) (st' := []) (w' := w) rfl ?_
      refine x_brT (by decide) ?_
      refine x_goN 1 (pc' := 38) (ls' := [xA 7 2, xI x1, xI x2]) (st' := [xI (-1)]) (w' := w) rfl ?_
      exact x_ret (P := True) rfl trivial ((h.1 c1).2.2 c2)
  · skip
    refine x_goN 1 (pc' := if (0 : Int32) = (0 : Int32) then 37 else 8) (ls' := [xA 7 2, xI x1, xI x2]) (st' := []) (w' := w) rfl ?_
    refine x_brT (by decide) ?_
    refine x_goN 1 (pc' := 38) (ls' := [xA 7 2, xI x1, xI x2]) (st' := [xI (-1)]) (w' := w) rfl ?_
    exact x_ret (P := True) rfl trivial (h.2 c1)
theorem z_wi {b m : Nat} {x : Int32} (hm : m ≤ 1000) : p_wi x 0 (nI m - 1) ↔ ∃ b, x = nI b ∧ b < m := by
  unfold p_wi
  have e : (nI m - 1).toInt = (m : Int) - 1 := by
    rw [show (1 : Int32) = nI 1 from rfl, pk_sub_toInt (by omega) (by omega)]; rfl
  rw [e, e_l0]
  constructor
  · rintro ⟨h0, h1⟩
    obtain ⟨j, e1, e2, -⟩ := z_of h0
    exact ⟨j, e1, by omega⟩
  · rintro ⟨b, rfl, hb⟩
    rw [nI_toInt (by omega)]; omega
theorem O_used (s : xS) (x1 x2 : Int32) : oB m_Vp_used [xA 6 1, xI x1, xI x2] m_Md_used [xA 7 2, xI x1, xI x2] s := by
  by_cases hp : pP (s_T s) x1 x2
  · refine ⟨(vUs (s_T s) x1 x2), s, fun w h => G_Vp_used_0 (T := s_T s) ⟨sC_R h, fun _ => ⟨sC_R h, cE h⟩, fun c => absurd hp c⟩, fun w h => ?_⟩
    obtain ⟨a, b, rfl, rfl, ha, hb⟩ := hp
    have h8 := tS_n8 (sM_S h)
    have hm := tS_m2 (sM_S h) ha
    refine G_Md_used_0 ⟨fun _ => ⟨z_in (by omega) (by decide), ?_⟩, fun c => absurd (tS_lt (sM_S h) ha) c⟩
    rw [tM_m (sM_S h) ha, z_2l, z_cl' (by omega), tM_u (sM_S h) ha hb, vUs_p h8 ha hb hm]
    exact ⟨fun _ => ⟨z_in (by omega) (by decide), mE h⟩, fun c => absurd ((z_wi (b := 0) (by omega)).mpr ⟨b, rfl, hb⟩) c⟩
  · refine ⟨(-1), s, fun w h => G_Vp_used_0 (T := s_T s) ⟨sC_R h, fun c => absurd c hp, fun _ => cE h⟩, fun w h => ?_⟩
    refine G_Md_used_0 ⟨fun c => ?_, fun _ => mE h⟩
    obtain ⟨a, ha, rfl⟩ := tS_ln (sM_S h) c
    have h8 := tS_n8 (sM_S h)
    have hm := tS_m2 (sM_S h) ha
    refine ⟨z_in (by omega) (by decide), ?_⟩
    rw [tM_m (sM_S h) ha]
    refine ⟨fun c2 => ?_, fun _ => mE h⟩
    obtain ⟨b, rfl, hb⟩ := (z_wi (b := 0) (by omega)).mp c2
    exact absurd ⟨a, b, rfl, rfl, ha, hb⟩ hp
theorem G_Vp_ofLine_0 {d : Nat} {x1 : Int32} {x2 : Int32} {w : xWd} {Q : xMV → xWd → Prop} (h : ((p_lt x1 (w 34 8) → ((x2 = 0 → (vp_in x1 8 ∧ Q (xI (w 1089 x1.toNatClampNeg)) w)) ∧ (¬ (x2 = 0) → ((x2 = 1 → (vp_in x1 8 ∧ Q (xI (w 1090 x1.toNatClampNeg)) w)) ∧ (¬ (x2 = 1) → ((x2 = 2 → (vp_in x1 8 ∧ Q (xI (w 1093 x1.toNatClampNeg)) w)) ∧ (¬ (x2 = 2) → ((x2 = 3 → xWp (d + 4) m_Tr_liveBehind 0 [xA 5 34, xI x1] [] w (fun a w' => xWp (d + 5) m_Vp_ofLine 102 [xA 6 1, xI x1, xI x2] (x_pu a []) w' Q)) ∧ (¬ (x2 = 3) → ((x2 = 4 → xWp (d + 4) m_Tr_pressure 0 [xA 5 34, xI x1] [] w (fun a w' => xWp (d + 5) m_Vp_ofLine 111 [xA 6 1, xI x1, xI x2] (x_pu a []) w' Q)) ∧ (¬ (x2 = 4) → ((x2 = 5 → xWp (d + 4) m_Tr_colourOf 0 [xA 5 34, xI x1] [] w (fun a w' => xWp (d + 5) m_Vp_ofLine 120 [xA 6 1, xI x1, xI x2] (x_pu a []) w' Q)) ∧ (¬ (x2 = 5) → ((x2 = 6 → xWp (d + 4) m_Tr_crossing 0 [xA 5 34, xI x1, xU, xU, xU] [] w (fun a w' => xWp (d + 5) m_Vp_ofLine 129 [xA 6 1, xI x1, xI x2] (x_pu a []) w' Q)) ∧ (¬ (x2 = 6) → ((x2 = 7 → xWp (d + 4) m_Tr_usersOf 0 [xA 5 34, xI x1, xU, xU] [] w (fun a w' => xWp (d + 5) m_Vp_ofLine 138 [xA 6 1, xI x1, xI x2] (x_pu a []) w' Q)) ∧ (¬ (x2 = 7) → ((x2 = 8 → xWp (d + 4) m_Tr_cost 0 [xA 5 34, xI x1, xU] [] w (fun a w' => xWp (d + 5) m_Vp_ofLine 147 [xA 6 1, xI x1, xI x2] (x_pu a []) w' Q)) ∧ (¬ (x2 = 8) → Q (xI (-2)) w))))))))))))))))))) ∧ (¬ (p_lt x1 (w 34 8)) → Q (xI (-1)) w))) : xWp (d + 5) m_Vp_ofLine 0 [xA 6 1, xI x1, xI x2] [] w Q := by
  refine x_goN 3 (pc' := 5) (ls' := [xA 6 1, xI x1, xI x2]) (st' := [xI x1, xA 5 34]) (w' := w) rfl ?_
  refine x_call (y := m_Tr_isLine) (as := [xA 5 34, xI x1]) (rst := []) rfl [xA 5 34, xI x1] rfl ?_
  refine S_Tr_isLine (fun c1 => ?_) (fun c1 => ?_)
  · skip
    refine x_goN 1 (pc' := if (1 : Int32) = (0 : Int32) then 11 else 13) (ls' := [xA 6 1, xI x1, xI x2]) (st' := []) (w' := w) rfl ?_
    refine x_brF (by decide) ?_
    refine x_goN 2 (pc' := if x2 = 0 then 64 else if x2 = 1 then 74 else if x2 = 2 then 84 else if x2 = 3 then 94 else if x2 = 4 then 103 else if x2 = 5 then 112 else if x2 = 6 then 121 else if x2 = 7 then 130 else if x2 = 8 then 139 else 148) (ls' := [xA 6 1, xI x1, xI x2]) (st' := []) (w' := w) rfl ?_
    refine x_br (fun c2 => ?_) (fun c2 => ?_)
    · skip
      refine x_goN 4 (pc' := 72) (ls' := [xA 6 1, xI x1, xI x2]) (st' := [xI x1, xA 108 1089]) (w' := w) rfl ?_
      refine x_ob (P := vp_in x1 8) (pc' := 73) (ls' := [xA 6 1, xI x1, xI x2]) (st' := [xI (w 1089 x1.toNatClampNeg)]) (w' := w) rfl ((h.1 c1).1 c2).1 ?_
      exact x_ret (P := True) rfl trivial ((h.1 c1).1 c2).2
    · skip
      refine x_br (fun c3 => ?_) (fun c3 => ?_)
      · skip
        refine x_goN 4 (pc' := 82) (ls' := [xA 6 1, xI x1, xI x2]) (st' := [xI x1, xA 108 1090]) (w' := w) rfl ?_
        refine x_ob (P := vp_in x1 8) (pc' := 83) (ls' := [xA 6 1, xI x1, xI x2]) (st' := [xI (w 1090 x1.toNatClampNeg)]) (w' := w) rfl (((h.1 c1).2 c2).1 c3).1 ?_
        exact x_ret (P := True) rfl trivial (((h.1 c1).2 c2).1 c3).2
      · skip
        refine x_br (fun c4 => ?_) (fun c4 => ?_)
        · skip
          refine x_goN 4 (pc' := 92) (ls' := [xA 6 1, xI x1, xI x2]) (st' := [xI x1, xA 108 1093]) (w' := w) rfl ?_
          refine x_ob (P := vp_in x1 8) (pc' := 93) (ls' := [xA 6 1, xI x1, xI x2]) (st' := [xI (w 1093 x1.toNatClampNeg)]) (w' := w) rfl ((((h.1 c1).2 c2).2 c3).1 c4).1 ?_
          exact x_ret (P := True) rfl trivial ((((h.1 c1).2 c2).2 c3).1 c4).2
        · skip
          refine x_br (fun c5 => ?_) (fun c5 => ?_)
          · skip
            refine x_goN 3 (pc' := 99) (ls' := [xA 6 1, xI x1, xI x2]) (st' := [xI x1, xA 5 34]) (w' := w) rfl ?_
            refine x_call (y := m_Tr_liveBehind) (as := [xA 5 34, xI x1]) (rst := []) rfl [xA 5 34, xI x1] rfl ?_
            exact (((((h.1 c1).2 c2).2 c3).2 c4).1 c5)
          · skip
            refine x_br (fun c6 => ?_) (fun c6 => ?_)
            · skip
              refine x_goN 3 (pc' := 108) (ls' := [xA 6 1, xI x1, xI x2]) (st' := [xI x1, xA 5 34]) (w' := w) rfl ?_
              refine x_call (y := m_Tr_pressure) (as := [xA 5 34, xI x1]) (rst := []) rfl [xA 5 34, xI x1] rfl ?_
              exact ((((((h.1 c1).2 c2).2 c3).2 c4).2 c5).1 c6)
            · skip
              refine x_br (fun c7 => ?_) (fun c7 => ?_)
              · skip
                refine x_goN 3 (pc' := 117) (ls' := [xA 6 1, xI x1, xI x2]) (st' := [xI x1, xA 5 34]) (w' := w) rfl ?_
                refine x_call (y := m_Tr_colourOf) (as := [xA 5 34, xI x1]) (rst := []) rfl [xA 5 34, xI x1] rfl ?_
                exact (((((((h.1 c1).2 c2).2 c3).2 c4).2 c5).2 c6).1 c7)
              · skip
                refine x_br (fun c8 => ?_) (fun c8 => ?_)
                · skip
                  refine x_goN 3 (pc' := 126) (ls' := [xA 6 1, xI x1, xI x2]) (st' := [xI x1, xA 5 34]) (w' := w) rfl ?_
                  refine x_call (y := m_Tr_crossing) (as := [xA 5 34, xI x1]) (rst := []) rfl [xA 5 34, xI x1, xU, xU, xU] rfl ?_
                  exact ((((((((h.1 c1).2 c2).2 c3).2 c4).2 c5).2 c6).2 c7).1 c8)
                · skip
                  refine x_br (fun c9 => ?_) (fun c9 => ?_)
                  · skip
                    refine x_goN 3 (pc' := 135) (ls' := [xA 6 1, xI x1, xI x2]) (st' := [xI x1, xA 5 34]) (w' := w) rfl ?_
                    refine x_call (y := m_Tr_usersOf) (as := [xA 5 34, xI x1]) (rst := []) rfl [xA 5 34, xI x1, xU, xU] rfl ?_
                    exact (((((((((h.1 c1).2 c2).2 c3).2 c4).2 c5).2 c6).2 c7).2 c8).1 c9)
                  · skip
                    refine x_br (fun c10 => ?_) (fun c10 => ?_)
                    · skip
                      refine x_goN 3 (pc' := 144) (ls' := [xA 6 1, xI x1, xI x2]) (st' := [xI x1, xA 5 34]) (w' := w) rfl ?_
                      refine x_call (y := m_Tr_cost) (as := [xA 5 34, xI x1]) (rst := []) rfl [xA 5 34, xI x1, xU] rfl ?_
                      exact ((((((((((h.1 c1).2 c2).2 c3).2 c4).2 c5).2 c6).2 c7).2 c8).2 c9).1 c10)
                    · skip
                      refine x_goN 1 (pc' := 150) (ls' := [xA 6 1, xI x1, xI x2]) (st' := [xI (-2)]) (w' := w) rfl ?_
                      exact x_ret (P := True) rfl trivial ((((((((((h.1 c1).2 c2).2 c3).2 c4).2 c5).2 c6).2 c7).2 c8).2 c9).2 c10)
  · skip
    refine x_goN 1 (pc' := if (0 : Int32) = (0 : Int32) then 11 else 13) (ls' := [xA 6 1, xI x1, xI x2]) (st' := []) (w' := w) rfl ?_
    refine x_brT (by decide) ?_
    refine x_goN 1 (pc' := 12) (ls' := [xA 6 1, xI x1, xI x2]) (st' := [xI (-1)]) (w' := w) rfl ?_
    exact x_ret (P := True) rfl trivial (h.2 c1)
theorem G_Vp_ofLine_102 {d : Nat} {x1 : Int32} {x2 : Int32} {s0 : Int32} {w : xWd} {Q : xMV → xWd → Prop} (h : Q (xI s0) w) : xWp (d + 5) m_Vp_ofLine 102 [xA 6 1, xI x1, xI x2] [xI s0] w Q := by
  exact x_ret (P := True) rfl trivial h
theorem G_Vp_ofLine_111 {d : Nat} {x1 : Int32} {x2 : Int32} {s0 : Int32} {w : xWd} {Q : xMV → xWd → Prop} (h : Q (xI s0) w) : xWp (d + 5) m_Vp_ofLine 111 [xA 6 1, xI x1, xI x2] [xI s0] w Q := by
  exact x_ret (P := True) rfl trivial h
theorem G_Vp_ofLine_120 {d : Nat} {x1 : Int32} {x2 : Int32} {s0 : Int32} {w : xWd} {Q : xMV → xWd → Prop} (h : Q (xI s0) w) : xWp (d + 5) m_Vp_ofLine 120 [xA 6 1, xI x1, xI x2] [xI s0] w Q := by
  exact x_ret (P := True) rfl trivial h
theorem G_Vp_ofLine_129 {d : Nat} {x1 : Int32} {x2 : Int32} {s0 : Int32} {w : xWd} {Q : xMV → xWd → Prop} (h : Q (xI s0) w) : xWp (d + 5) m_Vp_ofLine 129 [xA 6 1, xI x1, xI x2] [xI s0] w Q := by
  exact x_ret (P := True) rfl trivial h
theorem G_Vp_ofLine_138 {d : Nat} {x1 : Int32} {x2 : Int32} {s0 : Int32} {w : xWd} {Q : xMV → xWd → Prop} (h : Q (xI s0) w) : xWp (d + 5) m_Vp_ofLine 138 [xA 6 1, xI x1, xI x2] [xI s0] w Q := by
  exact x_ret (P := True) rfl trivial h
theorem G_Vp_ofLine_147 {d : Nat} {x1 : Int32} {x2 : Int32} {s0 : Int32} {w : xWd} {Q : xMV → xWd → Prop} (h : Q (xI s0) w) : xWp (d + 5) m_Vp_ofLine 147 [xA 6 1, xI x1, xI x2] [xI s0] w Q := by
  exact x_ret (P := True) rfl trivial h
theorem G_Md_ofLine_0 {d : Nat} {x1 : Int32} {x2 : Int32} {w : xWd} {Q : xMV → xWd → Prop} (h : ((p_lt x1 (w 2 5) → ((x2 = 0 → (vp_in x1 8 ∧ Q (xI (w 71 x1.toNatClampNeg)) w)) ∧ (¬ (x2 = 0) → ((x2 = 1 → (vp_in x1 8 ∧ Q (xI (w 72 x1.toNatClampNeg)) w)) ∧ (¬ (x2 = 1) → ((x2 = 2 → (vp_in x1 8 ∧ Q (xI (w 73 x1.toNatClampNeg)) w)) ∧ (¬ (x2 = 2) → ((x2 = 3 → xWp (d + 4) m_Md_liveBehind 0 [xA 7 2, xI x1, xU, xU] [] w (fun a w' => xWp (d + 5) m_Md_ofLine 86 [xA 7 2, xI x1, xI x2] (x_pu a []) w' Q)) ∧ (¬ (x2 = 3) → ((x2 = 4 → xWp (d + 4) m_Md_liveBehind 0 [xA 7 2, xI x1, xU, xU] [] w (fun a w' => xWp (d + 5) m_Md_ofLine 92 [xA 7 2, xI x1, xI x2] (x_pu a []) w' Q)) ∧ (¬ (x2 = 4) → ((x2 = 5 → xWp (d + 4) m_Md_colourOf 0 [xA 7 2, xI x1] [] w (fun a w' => xWp (d + 5) m_Md_ofLine 101 [xA 7 2, xI x1, xI x2] (x_pu a []) w' Q)) ∧ (¬ (x2 = 5) → ((x2 = 6 → xWp (d + 4) m_Md_crossing 0 [xA 7 2, xI x1, xU, xU] [] w (fun a w' => xWp (d + 5) m_Md_ofLine 107 [xA 7 2, xI x1, xI x2] (x_pu a []) w' Q)) ∧ (¬ (x2 = 6) → ((x2 = 7 → xWp (d + 4) m_Md_usersOf 0 [xA 7 2, xI x1, xU, xU] [] w (fun a w' => xWp (d + 5) m_Md_ofLine 113 [xA 7 2, xI x1, xI x2] (x_pu a []) w' Q)) ∧ (¬ (x2 = 7) → ((x2 = 8 → xWp (d + 4) m_Md_costOf 0 [xA 7 2, xI x1, xU] [] w (fun a w' => xWp (d + 5) m_Md_ofLine 119 [xA 7 2, xI x1, xI x2] (x_pu a []) w' Q)) ∧ (¬ (x2 = 8) → Q (xI (-2)) w))))))))))))))))))) ∧ (¬ (p_lt x1 (w 2 5)) → Q (xI (-1)) w))) : xWp (d + 5) m_Md_ofLine 0 [xA 7 2, xI x1, xI x2] [] w Q := by
  refine x_goN 2 (pc' := 2) (ls' := [xA 7 2, xI x1, xI x2]) (st' := [xI x1, xA 7 2]) (w' := w) rfl ?_
  refine x_call (y := m_Md_isLine) (as := [xA 7 2, xI x1]) (rst := []) rfl [xA 7 2, xI x1] rfl ?_
  refine S_Md_isLine (fun c1 => ?_) (fun c1 => ?_)
  · skip
    refine x_goN 1 (pc' := if (1 : Int32) = (0 : Int32) then 8 else 10) (ls' := [xA 7 2, xI x1, xI x2]) (st' := []) (w' := w) rfl ?_
    refine x_brF (by decide) ?_
    refine x_goN 2 (pc' := if x2 = 0 then 60 else if x2 = 1 then 67 else if x2 = 2 then 74 else if x2 = 3 then 81 else if x2 = 4 then 87 else if x2 = 5 then 96 else if x2 = 6 then 102 else if x2 = 7 then 108 else if x2 = 8 then 114 else 120) (ls' := [xA 7 2, xI x1, xI x2]) (st' := []) (w' := w) rfl ?_
    refine x_br (fun c2 => ?_) (fun c2 => ?_)
    · skip
      refine x_goN 3 (pc' := 65) (ls' := [xA 7 2, xI x1, xI x2]) (st' := [xI x1, xA 108 71]) (w' := w) rfl ?_
      refine x_ob (P := vp_in x1 8) (pc' := 66) (ls' := [xA 7 2, xI x1, xI x2]) (st' := [xI (w 71 x1.toNatClampNeg)]) (w' := w) rfl ((h.1 c1).1 c2).1 ?_
      exact x_ret (P := True) rfl trivial ((h.1 c1).1 c2).2
    · skip
      refine x_br (fun c3 => ?_) (fun c3 => ?_)
      · skip
        refine x_goN 3 (pc' := 72) (ls' := [xA 7 2, xI x1, xI x2]) (st' := [xI x1, xA 108 72]) (w' := w) rfl ?_
        refine x_ob (P := vp_in x1 8) (pc' := 73) (ls' := [xA 7 2, xI x1, xI x2]) (st' := [xI (w 72 x1.toNatClampNeg)]) (w' := w) rfl (((h.1 c1).2 c2).1 c3).1 ?_
        exact x_ret (P := True) rfl trivial (((h.1 c1).2 c2).1 c3).2
      · skip
        refine x_br (fun c4 => ?_) (fun c4 => ?_)
        · skip
          refine x_goN 3 (pc' := 79) (ls' := [xA 7 2, xI x1, xI x2]) (st' := [xI x1, xA 108 73]) (w' := w) rfl ?_
          refine x_ob (P := vp_in x1 8) (pc' := 80) (ls' := [xA 7 2, xI x1, xI x2]) (st' := [xI (w 73 x1.toNatClampNeg)]) (w' := w) rfl ((((h.1 c1).2 c2).2 c3).1 c4).1 ?_
          exact x_ret (P := True) rfl trivial ((((h.1 c1).2 c2).2 c3).1 c4).2
        · skip
          refine x_br (fun c5 => ?_) (fun c5 => ?_)
          · skip
            refine x_goN 2 (pc' := 83) (ls' := [xA 7 2, xI x1, xI x2]) (st' := [xI x1, xA 7 2]) (w' := w) rfl ?_
            refine x_call (y := m_Md_liveBehind) (as := [xA 7 2, xI x1]) (rst := []) rfl [xA 7 2, xI x1, xU, xU] rfl ?_
            exact (((((h.1 c1).2 c2).2 c3).2 c4).1 c5)
          · skip
            refine x_br (fun c6 => ?_) (fun c6 => ?_)
            · skip
              refine x_goN 2 (pc' := 89) (ls' := [xA 7 2, xI x1, xI x2]) (st' := [xI x1, xA 7 2]) (w' := w) rfl ?_
              refine x_call (y := m_Md_liveBehind) (as := [xA 7 2, xI x1]) (rst := []) rfl [xA 7 2, xI x1, xU, xU] rfl ?_
              exact ((((((h.1 c1).2 c2).2 c3).2 c4).2 c5).1 c6)
            · skip
              refine x_br (fun c7 => ?_) (fun c7 => ?_)
              · skip
                refine x_goN 2 (pc' := 98) (ls' := [xA 7 2, xI x1, xI x2]) (st' := [xI x1, xA 7 2]) (w' := w) rfl ?_
                refine x_call (y := m_Md_colourOf) (as := [xA 7 2, xI x1]) (rst := []) rfl [xA 7 2, xI x1] rfl ?_
                exact (((((((h.1 c1).2 c2).2 c3).2 c4).2 c5).2 c6).1 c7)
              · skip
                refine x_br (fun c8 => ?_) (fun c8 => ?_)
                · skip
                  refine x_goN 2 (pc' := 104) (ls' := [xA 7 2, xI x1, xI x2]) (st' := [xI x1, xA 7 2]) (w' := w) rfl ?_
                  refine x_call (y := m_Md_crossing) (as := [xA 7 2, xI x1]) (rst := []) rfl [xA 7 2, xI x1, xU, xU] rfl ?_
                  exact ((((((((h.1 c1).2 c2).2 c3).2 c4).2 c5).2 c6).2 c7).1 c8)
                · skip
                  refine x_br (fun c9 => ?_) (fun c9 => ?_)
                  · skip
                    refine x_goN 2 (pc' := 110) (ls' := [xA 7 2, xI x1, xI x2]) (st' := [xI x1, xA 7 2]) (w' := w) rfl ?_
                    refine x_call (y := m_Md_usersOf) (as := [xA 7 2, xI x1]) (rst := []) rfl [xA 7 2, xI x1, xU, xU] rfl ?_
                    exact (((((((((h.1 c1).2 c2).2 c3).2 c4).2 c5).2 c6).2 c7).2 c8).1 c9)
                  · skip
                    refine x_br (fun c10 => ?_) (fun c10 => ?_)
                    · skip
                      refine x_goN 2 (pc' := 116) (ls' := [xA 7 2, xI x1, xI x2]) (st' := [xI x1, xA 7 2]) (w' := w) rfl ?_
                      refine x_call (y := m_Md_costOf) (as := [xA 7 2, xI x1]) (rst := []) rfl [xA 7 2, xI x1, xU] rfl ?_
                      exact ((((((((((h.1 c1).2 c2).2 c3).2 c4).2 c5).2 c6).2 c7).2 c8).2 c9).1 c10)
                    · skip
                      refine x_goN 1 (pc' := 122) (ls' := [xA 7 2, xI x1, xI x2]) (st' := [xI (-2)]) (w' := w) rfl ?_
                      exact x_ret (P := True) rfl trivial ((((((((((h.1 c1).2 c2).2 c3).2 c4).2 c5).2 c6).2 c7).2 c8).2 c9).2 c10)
  · skip
    refine x_goN 1 (pc' := if (0 : Int32) = (0 : Int32) then 8 else 10) (ls' := [xA 7 2, xI x1, xI x2]) (st' := []) (w' := w) rfl ?_
    refine x_brT (by decide) ?_
    refine x_goN 1 (pc' := 9) (ls' := [xA 7 2, xI x1, xI x2]) (st' := [xI (-1)]) (w' := w) rfl ?_
    exact x_ret (P := True) rfl trivial (h.2 c1)
theorem G_Md_ofLine_86 {d : Nat} {x1 : Int32} {x2 : Int32} {s0 : Int32} {w : xWd} {Q : xMV → xWd → Prop} (h : Q (xI s0) w) : xWp (d + 5) m_Md_ofLine 86 [xA 7 2, xI x1, xI x2] [xI s0] w Q := by
  exact x_ret (P := True) rfl trivial h
theorem G_Md_ofLine_92 {d : Nat} {x1 : Int32} {x2 : Int32} {s0 : Int32} {w : xWd} {Q : xMV → xWd → Prop} (h : xWp (d + 4) m_Md_size 0 [xI s0, xU, xU] [] w (fun a w' => xWp (d + 5) m_Md_ofLine 95 [xA 7 2, xI x1, xI x2] (x_pu a []) w' Q)) : xWp (d + 5) m_Md_ofLine 92 [xA 7 2, xI x1, xI x2] [xI s0] w Q := by
  refine x_call (y := m_Md_size) (as := [xI s0]) (rst := []) rfl [xI s0, xU, xU] rfl ?_
  exact h
theorem G_Md_ofLine_95 {d : Nat} {x1 : Int32} {x2 : Int32} {s0 : Int32} {w : xWd} {Q : xMV → xWd → Prop} (h : Q (xI s0) w) : xWp (d + 5) m_Md_ofLine 95 [xA 7 2, xI x1, xI x2] [xI s0] w Q := by
  exact x_ret (P := True) rfl trivial h
theorem G_Md_ofLine_101 {d : Nat} {x1 : Int32} {x2 : Int32} {s0 : Int32} {w : xWd} {Q : xMV → xWd → Prop} (h : Q (xI s0) w) : xWp (d + 5) m_Md_ofLine 101 [xA 7 2, xI x1, xI x2] [xI s0] w Q := by
  exact x_ret (P := True) rfl trivial h
theorem G_Md_ofLine_107 {d : Nat} {x1 : Int32} {x2 : Int32} {s0 : Int32} {w : xWd} {Q : xMV → xWd → Prop} (h : Q (xI s0) w) : xWp (d + 5) m_Md_ofLine 107 [xA 7 2, xI x1, xI x2] [xI s0] w Q := by
  exact x_ret (P := True) rfl trivial h
theorem G_Md_ofLine_113 {d : Nat} {x1 : Int32} {x2 : Int32} {s0 : Int32} {w : xWd} {Q : xMV → xWd → Prop} (h : Q (xI s0) w) : xWp (d + 5) m_Md_ofLine 113 [xA 7 2, xI x1, xI x2] [xI s0] w Q := by
  exact x_ret (P := True) rfl trivial h
theorem G_Md_ofLine_119 {d : Nat} {x1 : Int32} {x2 : Int32} {s0 : Int32} {w : xWd} {Q : xMV → xWd → Prop} (h : Q (xI s0) w) : xWp (d + 5) m_Md_ofLine 119 [xA 7 2, xI x1, xI x2] [xI s0] w Q := by
  exact x_ret (P := True) rfl trivial h
theorem O_ofLine (s : xS) (x1 x2 : Int32) : oB m_Vp_ofLine [xA 6 1, xI x1, xI x2] m_Md_ofLine [xA 7 2, xI x1, xI x2] s := by
  by_cases hp : pL (s_T s) x1
  · obtain ⟨a, ha, rfl⟩ := hp
    by_cases c0 : x2 = 0
    · subst c0
      refine ⟨(nI (tk (s_T s) a)), s, fun w h => G_Vp_ofLine_0 ⟨fun _ => ⟨fun _ => ?_, fun c => absurd rfl c⟩, fun c => absurd (tR_lt (sC_R h) ha) c⟩, fun w h => G_Md_ofLine_0 ⟨fun _ => ⟨fun _ => ?_, fun c => absurd rfl c⟩, fun c => absurd (tS_lt (sM_S h) ha) c⟩⟩
      · have h8 := s_n8 h.1
        exact ⟨z_in (by omega) (by decide), cEe (congrArg xI (tC_k (sC_R h) ha)) h⟩
      · have h8 := s_n8 h.1
        exact ⟨z_in (by omega) (by decide), mEe (congrArg xI (tM_k (sM_S h) ha)) h⟩
    by_cases c1 : x2 = 1
    · subst c1
      refine ⟨(nI (ta (s_T s) a)), s, fun w h => G_Vp_ofLine_0 ⟨fun _ => ⟨fun c => absurd c c0, fun _ => ⟨fun _ => ?_, fun c => absurd rfl c⟩⟩, fun c => absurd (tR_lt (sC_R h) ha) c⟩, fun w h => G_Md_ofLine_0 ⟨fun _ => ⟨fun c => absurd c c0, fun _ => ⟨fun _ => ?_, fun c => absurd rfl c⟩⟩, fun c => absurd (tS_lt (sM_S h) ha) c⟩⟩
      · have h8 := s_n8 h.1
        exact ⟨z_in (by omega) (by decide), cEe (congrArg xI (tC_a (sC_R h) ha)) h⟩
      · have h8 := s_n8 h.1
        exact ⟨z_in (by omega) (by decide), mEe (congrArg xI (tM_a (sM_S h) ha)) h⟩
    by_cases c2 : x2 = 2
    · subst c2
      refine ⟨(nI (tm (s_T s) a)), s, fun w h => G_Vp_ofLine_0 ⟨fun _ => ⟨fun c => absurd c c0, fun _ => ⟨fun c => absurd c c1, fun _ => ⟨fun _ => ?_, fun c => absurd rfl c⟩⟩⟩, fun c => absurd (tR_lt (sC_R h) ha) c⟩, fun w h => G_Md_ofLine_0 ⟨fun _ => ⟨fun c => absurd c c0, fun _ => ⟨fun c => absurd c c1, fun _ => ⟨fun _ => ?_, fun c => absurd rfl c⟩⟩⟩, fun c => absurd (tS_lt (sM_S h) ha) c⟩⟩
      · have h8 := s_n8 h.1
        exact ⟨z_in (by omega) (by decide), cEe (congrArg xI (tC_m (sC_R h) ha)) h⟩
      · have h8 := s_n8 h.1
        exact ⟨z_in (by omega) (by decide), mEe (congrArg xI (tM_m (sM_S h) ha)) h⟩
    by_cases c3 : x2 = 3
    · subst c3
      exact ⟨(nI (mLv (s_T s) a)), s, fun w h => G_Vp_ofLine_0 ⟨fun _ => ⟨fun c => absurd c c0, fun _ => ⟨fun c => absurd c c1, fun _ => ⟨fun c => absurd c c2, fun _ => ⟨fun _ => S_Tr_liveBehind (sC_R h) ha (G_Vp_ofLine_102 (cE h)), fun c => absurd rfl c⟩⟩⟩⟩, fun c => absurd (tR_lt (sC_R h) ha) c⟩, fun w h => G_Md_ofLine_0 ⟨fun _ => ⟨fun c => absurd c c0, fun _ => ⟨fun c => absurd c c1, fun _ => ⟨fun c => absurd c c2, fun _ => ⟨fun _ => S_Md_liveBehind (sM_S h) ha (G_Md_ofLine_86 (mE h)), fun c => absurd rfl c⟩⟩⟩⟩, fun c => absurd (tS_lt (sM_S h) ha) c⟩⟩
    by_cases c4 : x2 = 4
    · subst c4
      exact ⟨(nI (z_pc (mLv (s_T s) a))), s, fun w h => G_Vp_ofLine_0 ⟨fun _ => ⟨fun c => absurd c c0, fun _ => ⟨fun c => absurd c c1, fun _ => ⟨fun c => absurd c c2, fun _ => ⟨fun c => absurd c c3, fun _ => ⟨fun _ => S_Tr_pressure (sC_R h) ha (G_Vp_ofLine_111 (cE h)), fun c => absurd rfl c⟩⟩⟩⟩⟩, fun c => absurd (tR_lt (sC_R h) ha) c⟩, fun w h => G_Md_ofLine_0 ⟨fun _ => ⟨fun c => absurd c c0, fun _ => ⟨fun c => absurd c c1, fun _ => ⟨fun c => absurd c c2, fun _ => ⟨fun c => absurd c c3, fun _ => ⟨fun _ => S_Md_liveBehind (sM_S h) ha (G_Md_ofLine_92 (S_Md_size (mLv_lt (s_T s) a) (G_Md_ofLine_95 (mE h)))), fun c => absurd rfl c⟩⟩⟩⟩⟩, fun c => absurd (tS_lt (sM_S h) ha) c⟩⟩
    by_cases c5 : x2 = 5
    · subst c5
      exact ⟨(nI (tCl (s_T s) a)), s, fun w h => G_Vp_ofLine_0 ⟨fun _ => ⟨fun c => absurd c c0, fun _ => ⟨fun c => absurd c c1, fun _ => ⟨fun c => absurd c c2, fun _ => ⟨fun c => absurd c c3, fun _ => ⟨fun c => absurd c c4, fun _ => ⟨fun _ => S_Tr_colourOf (sC_R h) ha (fun w' g => G_Vp_ofLine_120 (cG_E h g)), fun c => absurd rfl c⟩⟩⟩⟩⟩⟩, fun c => absurd (tR_lt (sC_R h) ha) c⟩, fun w h => G_Md_ofLine_0 ⟨fun _ => ⟨fun c => absurd c c0, fun _ => ⟨fun c => absurd c c1, fun _ => ⟨fun c => absurd c c2, fun _ => ⟨fun c => absurd c c3, fun _ => ⟨fun c => absurd c c4, fun _ => ⟨fun _ => S_Md_colourOf (sM_S h) ha (fun w' g => G_Md_ofLine_101 (cH_E h g)), fun c => absurd rfl c⟩⟩⟩⟩⟩⟩, fun c => absurd (tS_lt (sM_S h) ha) c⟩⟩
    by_cases c6 : x2 = 6
    · subst c6
      exact ⟨(nI (mCr (s_T s) a)), s, fun w h => G_Vp_ofLine_0 ⟨fun _ => ⟨fun c => absurd c c0, fun _ => ⟨fun c => absurd c c1, fun _ => ⟨fun c => absurd c c2, fun _ => ⟨fun c => absurd c c3, fun _ => ⟨fun c => absurd c c4, fun _ => ⟨fun c => absurd c c5, fun _ => ⟨fun _ => S_Tr_crossing (sC_R h) (by have h8 := s_n8 h.1; omega) (G_Vp_ofLine_129 (cE h)), fun c => absurd rfl c⟩⟩⟩⟩⟩⟩⟩, fun c => absurd (tR_lt (sC_R h) ha) c⟩, fun w h => G_Md_ofLine_0 ⟨fun _ => ⟨fun c => absurd c c0, fun _ => ⟨fun c => absurd c c1, fun _ => ⟨fun c => absurd c c2, fun _ => ⟨fun c => absurd c c3, fun _ => ⟨fun c => absurd c c4, fun _ => ⟨fun c => absurd c c5, fun _ => ⟨fun _ => S_Md_crossing (sM_S h) (by have h8 := s_n8 h.1; omega) (G_Md_ofLine_107 (mE h)), fun c => absurd rfl c⟩⟩⟩⟩⟩⟩⟩, fun c => absurd (tS_lt (sM_S h) ha) c⟩⟩
    by_cases c7 : x2 = 7
    · subst c7
      exact ⟨(nI (mUs (s_T s) a)), s, fun w h => G_Vp_ofLine_0 ⟨fun _ => ⟨fun c => absurd c c0, fun _ => ⟨fun c => absurd c c1, fun _ => ⟨fun c => absurd c c2, fun _ => ⟨fun c => absurd c c3, fun _ => ⟨fun c => absurd c c4, fun _ => ⟨fun c => absurd c c5, fun _ => ⟨fun c => absurd c c6, fun _ => ⟨fun _ => S_Tr_usersOf (sC_R h) (by have h8 := s_n8 h.1; omega) (G_Vp_ofLine_138 (cE h)), fun c => absurd rfl c⟩⟩⟩⟩⟩⟩⟩⟩, fun c => absurd (tR_lt (sC_R h) ha) c⟩, fun w h => G_Md_ofLine_0 ⟨fun _ => ⟨fun c => absurd c c0, fun _ => ⟨fun c => absurd c c1, fun _ => ⟨fun c => absurd c c2, fun _ => ⟨fun c => absurd c c3, fun _ => ⟨fun c => absurd c c4, fun _ => ⟨fun c => absurd c c5, fun _ => ⟨fun c => absurd c c6, fun _ => ⟨fun _ => S_Md_usersOf (sM_S h) (by have h8 := s_n8 h.1; omega) (G_Md_ofLine_113 (mE h)), fun c => absurd rfl c⟩⟩⟩⟩⟩⟩⟩⟩, fun c => absurd (tS_lt (sM_S h) ha) c⟩⟩
    by_cases c8 : x2 = 8
    · subst c8
      exact ⟨(nI (tCo (s_T s) a)), s, fun w h => G_Vp_ofLine_0 ⟨fun _ => ⟨fun c => absurd c c0, fun _ => ⟨fun c => absurd c c1, fun _ => ⟨fun c => absurd c c2, fun _ => ⟨fun c => absurd c c3, fun _ => ⟨fun c => absurd c c4, fun _ => ⟨fun c => absurd c c5, fun _ => ⟨fun c => absurd c c6, fun _ => ⟨fun c => absurd c c7, fun _ => ⟨fun _ => S_Tr_cost (sC_R h) ha (G_Vp_ofLine_147 (cE h)), fun c => absurd rfl c⟩⟩⟩⟩⟩⟩⟩⟩⟩, fun c => absurd (tR_lt (sC_R h) ha) c⟩, fun w h => G_Md_ofLine_0 ⟨fun _ => ⟨fun c => absurd c c0, fun _ => ⟨fun c => absurd c c1, fun _ => ⟨fun c => absurd c c2, fun _ => ⟨fun c => absurd c c3, fun _ => ⟨fun c => absurd c c4, fun _ => ⟨fun c => absurd c c5, fun _ => ⟨fun c => absurd c c6, fun _ => ⟨fun c => absurd c c7, fun _ => ⟨fun _ => S_Md_costOf (sM_S h) ha (G_Md_ofLine_119 (mE h)), fun c => absurd rfl c⟩⟩⟩⟩⟩⟩⟩⟩⟩, fun c => absurd (tS_lt (sM_S h) ha) c⟩⟩
    exact ⟨(-2), s, fun w h => G_Vp_ofLine_0 ⟨fun _ => ⟨fun c => absurd c c0, fun _ => ⟨fun c => absurd c c1, fun _ => ⟨fun c => absurd c c2, fun _ => ⟨fun c => absurd c c3, fun _ => ⟨fun c => absurd c c4, fun _ => ⟨fun c => absurd c c5, fun _ => ⟨fun c => absurd c c6, fun _ => ⟨fun c => absurd c c7, fun _ => ⟨fun c => absurd c c8, fun _ => cE h⟩⟩⟩⟩⟩⟩⟩⟩⟩, fun c => absurd (tR_lt (sC_R h) ha) c⟩, fun w h => G_Md_ofLine_0 ⟨fun _ => ⟨fun c => absurd c c0, fun _ => ⟨fun c => absurd c c1, fun _ => ⟨fun c => absurd c c2, fun _ => ⟨fun c => absurd c c3, fun _ => ⟨fun c => absurd c c4, fun _ => ⟨fun c => absurd c c5, fun _ => ⟨fun c => absurd c c6, fun _ => ⟨fun c => absurd c c7, fun _ => ⟨fun c => absurd c c8, fun _ => mE h⟩⟩⟩⟩⟩⟩⟩⟩⟩, fun c => absurd (tS_lt (sM_S h) ha) c⟩⟩
  · exact ⟨(-1), s, fun w h => G_Vp_ofLine_0 ⟨fun c => absurd ((pL_C h).mp c) hp, fun _ => cE h⟩, fun w h => G_Md_ofLine_0 ⟨fun c => absurd ((pL_M h).mp c) hp, fun _ => mE h⟩⟩
theorem G_Vp_cross_0 {d : Nat} {x1 : Int32} {x2 : Int32} {w : xWd} {Q : xMV → xWd → Prop} (h : ((p_lt x1 (w 34 8) → ((p_lt x2 (w 34 8) → ((x1 = x2 → Q (xI (-1)) w) ∧ (¬ (x1 = x2) → xWp (d + 3) m_Tr_crossing 0 [xA 5 34, xI x1, xU, xU, xU] [] w (fun a w' => xWp (d + 4) m_Vp_cross 37 [xA 6 1, xI x1, xI x2] (x_pu a []) w' Q)))) ∧ (¬ (p_lt x2 (w 34 8)) → Q (xI (-1)) w))) ∧ (¬ (p_lt x1 (w 34 8)) → Q (xI (-1)) w))) : xWp (d + 4) m_Vp_cross 0 [xA 6 1, xI x1, xI x2] [] w Q := by
  refine x_goN 3 (pc' := 5) (ls' := [xA 6 1, xI x1, xI x2]) (st' := [xI x1, xA 5 34]) (w' := w) rfl ?_
  refine x_call (y := m_Tr_isLine) (as := [xA 5 34, xI x1]) (rst := []) rfl [xA 5 34, xI x1] rfl ?_
  refine S_Tr_isLine (fun c1 => ?_) (fun c1 => ?_)
  · skip
    refine x_goN 1 (pc' := if (1 : Int32) = (0 : Int32) then 27 else 11) (ls' := [xA 6 1, xI x1, xI x2]) (st' := []) (w' := w) rfl ?_
    refine x_brF (by decide) ?_
    refine x_goN 3 (pc' := 16) (ls' := [xA 6 1, xI x1, xI x2]) (st' := [xI x2, xA 5 34]) (w' := w) rfl ?_
    refine x_call (y := m_Tr_isLine) (as := [xA 5 34, xI x2]) (rst := []) rfl [xA 5 34, xI x2] rfl ?_
    refine S_Tr_isLine (fun c2 => ?_) (fun c2 => ?_)
    · skip
      refine x_goN 1 (pc' := if (1 : Int32) = (0 : Int32) then 27 else 22) (ls' := [xA 6 1, xI x1, xI x2]) (st' := []) (w' := w) rfl ?_
      refine x_brF (by decide) ?_
      refine x_goN 3 (pc' := if x1 = x2 then 27 else 29) (ls' := [xA 6 1, xI x1, xI x2]) (st' := []) (w' := w) rfl ?_
      refine x_br (fun c3 => ?_) (fun c3 => ?_)
      · skip
        refine x_goN 1 (pc' := 28) (ls' := [xA 6 1, xI x1, xI x2]) (st' := [xI (-1)]) (w' := w) rfl ?_
        exact x_ret (P := True) rfl trivial (((h.1 c1).1 c2).1 c3)
      · skip
        refine x_goN 3 (pc' := 34) (ls' := [xA 6 1, xI x1, xI x2]) (st' := [xI x1, xA 5 34]) (w' := w) rfl ?_
        refine x_call (y := m_Tr_crossing) (as := [xA 5 34, xI x1]) (rst := []) rfl [xA 5 34, xI x1, xU, xU, xU] rfl ?_
        exact (((h.1 c1).1 c2).2 c3)
    · skip
      refine x_goN 1 (pc' := if (0 : Int32) = (0 : Int32) then 27 else 22) (ls' := [xA 6 1, xI x1, xI x2]) (st' := []) (w' := w) rfl ?_
      refine x_brT (by decide) ?_
      refine x_goN 1 (pc' := 28) (ls' := [xA 6 1, xI x1, xI x2]) (st' := [xI (-1)]) (w' := w) rfl ?_
      exact x_ret (P := True) rfl trivial ((h.1 c1).2 c2)
  · skip
    refine x_goN 1 (pc' := if (0 : Int32) = (0 : Int32) then 27 else 11) (ls' := [xA 6 1, xI x1, xI x2]) (st' := []) (w' := w) rfl ?_
    refine x_brT (by decide) ?_
    refine x_goN 1 (pc' := 28) (ls' := [xA 6 1, xI x1, xI x2]) (st' := [xI (-1)]) (w' := w) rfl ?_
    exact x_ret (P := True) rfl trivial (h.2 c1)
theorem G_Vp_cross_37 {d : Nat} {x1 : Int32} {x2 : Int32} {s0 : Int32} {w : xWd} {Q : xMV → xWd → Prop} (h : ((p_in s0 x2 → Q (xI 1) w) ∧ (¬ (p_in s0 x2) → Q (xI 0) w))) : xWp (d + 4) m_Vp_cross 37 [xA 6 1, xI x1, xI x2] [xI s0] w Q := by
  refine x_goN 1 (pc' := 38) (ls' := [xA 6 1, xI x1, xI x2]) (st' := [xI x2, xI s0]) (w' := w) rfl ?_
  refine x_call (y := m_Vp_inSet) (as := [xI s0, xI x2]) (rst := []) rfl [xI s0, xI x2] rfl ?_
  refine S_Vp_inSet (fun c1 => ?_) (fun c1 => ?_)
  · skip
    refine x_goN 1 (pc' := if (1 : Int32) = (0 : Int32) then 48 else 44) (ls' := [xA 6 1, xI x1, xI x2]) (st' := []) (w' := w) rfl ?_
    refine x_brF (by decide) ?_
    refine x_goN 2 (pc' := 49) (ls' := [xA 6 1, xI x1, xI x2]) (st' := [xI 1]) (w' := w) rfl ?_
    exact x_ret (P := True) rfl trivial (h.1 c1)
  · skip
    refine x_goN 1 (pc' := if (0 : Int32) = (0 : Int32) then 48 else 44) (ls' := [xA 6 1, xI x1, xI x2]) (st' := []) (w' := w) rfl ?_
    refine x_brT (by decide) ?_
    refine x_goN 1 (pc' := 49) (ls' := [xA 6 1, xI x1, xI x2]) (st' := [xI 0]) (w' := w) rfl ?_
    exact x_ret (P := True) rfl trivial (h.2 c1)
theorem G_Md_cross_0 {d : Nat} {x1 : Int32} {x2 : Int32} {w : xWd} {Q : xMV → xWd → Prop} (h : ((p_lt x1 (w 2 5) → ((p_lt x2 (w 2 5) → ((x1 = x2 → Q (xI (-1)) w) ∧ (¬ (x1 = x2) → xWp (d + 3) m_Md_doCross 0 [xA 7 2, xI x1, xI x2, xU, xU] [] w (fun a w' => xWp (d + 4) m_Md_cross 27 [xA 7 2, xI x1, xI x2] (x_pu a []) w' Q)))) ∧ (¬ (p_lt x2 (w 2 5)) → Q (xI (-1)) w))) ∧ (¬ (p_lt x1 (w 2 5)) → Q (xI (-1)) w))) : xWp (d + 4) m_Md_cross 0 [xA 7 2, xI x1, xI x2] [] w Q := by
  refine x_goN 2 (pc' := 2) (ls' := [xA 7 2, xI x1, xI x2]) (st' := [xI x1, xA 7 2]) (w' := w) rfl ?_
  refine x_call (y := m_Md_isLine) (as := [xA 7 2, xI x1]) (rst := []) rfl [xA 7 2, xI x1] rfl ?_
  refine S_Md_isLine (fun c1 => ?_) (fun c1 => ?_)
  · skip
    refine x_goN 1 (pc' := if (1 : Int32) = (0 : Int32) then 38 else 8) (ls' := [xA 7 2, xI x1, xI x2]) (st' := []) (w' := w) rfl ?_
    refine x_brF (by decide) ?_
    refine x_goN 2 (pc' := 10) (ls' := [xA 7 2, xI x1, xI x2]) (st' := [xI x2, xA 7 2]) (w' := w) rfl ?_
    refine x_call (y := m_Md_isLine) (as := [xA 7 2, xI x2]) (rst := []) rfl [xA 7 2, xI x2] rfl ?_
    refine S_Md_isLine (fun c2 => ?_) (fun c2 => ?_)
    · skip
      refine x_goN 1 (pc' := if (1 : Int32) = (0 : Int32) then 38 else 16) (ls' := [xA 7 2, xI x1, xI x2]) (st' := []) (w' := w) rfl ?_
      refine x_brF (by decide) ?_
      refine x_goN 3 (pc' := if x1 = x2 then 38 else 21) (ls' := [xA 7 2, xI x1, xI x2]) (st' := []) (w' := w) rfl ?_
      refine x_br (fun c3 => ?_) (fun c3 => ?_)
      · skip
        refine x_goN 1 (pc' := 39) (ls' := [xA 7 2, xI x1, xI x2]) (st' := [xI (-1)]) (w' := w) rfl ?_
        exact x_ret (P := True) rfl trivial (((h.1 c1).1 c2).1 c3)
      · skip
        refine x_goN 3 (pc' := 24) (ls' := [xA 7 2, xI x1, xI x2]) (st' := [xI x2, xI x1, xA 7 2]) (w' := w) rfl ?_
        refine x_call (y := m_Md_doCross) (as := [xA 7 2, xI x1, xI x2]) (rst := []) rfl [xA 7 2, xI x1, xI x2, xU, xU] rfl ?_
        exact (((h.1 c1).1 c2).2 c3)
    · skip
      refine x_goN 1 (pc' := if (0 : Int32) = (0 : Int32) then 38 else 16) (ls' := [xA 7 2, xI x1, xI x2]) (st' := []) (w' := w) rfl ?_
      refine x_brT (by decide) ?_
      refine x_goN 1 (pc' := 39) (ls' := [xA 7 2, xI x1, xI x2]) (st' := [xI (-1)]) (w' := w) rfl ?_
      exact x_ret (P := True) rfl trivial ((h.1 c1).2 c2)
  · skip
    refine x_goN 1 (pc' := if (0 : Int32) = (0 : Int32) then 38 else 8) (ls' := [xA 7 2, xI x1, xI x2]) (st' := []) (w' := w) rfl ?_
    refine x_brT (by decide) ?_
    refine x_goN 1 (pc' := 39) (ls' := [xA 7 2, xI x1, xI x2]) (st' := [xI (-1)]) (w' := w) rfl ?_
    exact x_ret (P := True) rfl trivial (h.2 c1)
theorem G_Md_cross_27 {d : Nat} {x1 : Int32} {x2 : Int32} {s0 : Int32} {w : xWd} {Q : xMV → xWd → Prop} (h : ((s0 = 0 → Q (xI 0) w) ∧ (¬ (s0 = 0) → Q (xI 1) w))) : xWp (d + 4) m_Md_cross 27 [xA 7 2, xI x1, xI x2] [xI s0] w Q := by
  refine x_goN 1 (pc' := if s0 = 0 then 34 else 30) (ls' := [xA 7 2, xI x1, xI x2]) (st' := []) (w' := w) rfl ?_
  refine x_br (fun c1 => ?_) (fun c1 => ?_)
  · skip
    refine x_goN 2 (pc' := 39) (ls' := [xA 7 2, xI x1, xI x2]) (st' := [xI 0]) (w' := w) rfl ?_
    exact x_ret (P := True) rfl trivial (h.1 c1)
  · skip
    refine x_goN 2 (pc' := 39) (ls' := [xA 7 2, xI x1, xI x2]) (st' := [xI 1]) (w' := w) rfl ?_
    exact x_ret (P := True) rfl trivial (h.2 c1)
theorem p_in_cr {T : xT} {a b : Nat} (hb : b < 8) (hne : a ≠ b) : p_in (nI (mCr T a)) (nI b) ↔ cr T a b = true := by
  unfold p_in
  rw [z_bit' (mCr_lt T a) hb]
  unfold mCr
  rw [z_mk_tb, decide_eq_true hb, Bool.true_and, decide_eq_true (Ne.symm hne), Bool.true_and]
theorem O_cross (s : xS) (x1 x2 : Int32) : oB m_Vp_cross [xA 6 1, xI x1, xI x2] m_Md_cross [xA 7 2, xI x1, xI x2] s := by
  by_cases hp : pL (s_T s) x1
  · by_cases hq : pL (s_T s) x2
    · by_cases he : x1 = x2
      · exact ⟨(-1), s, fun w h => G_Vp_cross_0 ⟨fun _ => ⟨fun _ => ⟨fun _ => cE h, fun c => absurd he c⟩, fun _ => cE h⟩, fun _ => cE h⟩, fun w h => G_Md_cross_0 ⟨fun _ => ⟨fun _ => ⟨fun _ => mE h, fun c => absurd he c⟩, fun _ => mE h⟩, fun _ => mE h⟩⟩
      · obtain ⟨a, ha, rfl⟩ := hp
        obtain ⟨b, hb, rfl⟩ := hq
        have hne : a ≠ b := fun q => he (by rw [q])
        by_cases hc : cr (s_T s) a b = true
        · refine ⟨1, s, fun w h => ?_, fun w h => ?_⟩
          · have h8 := s_n8 h.1
            exact G_Vp_cross_0 ⟨fun _ => ⟨fun _ => ⟨fun c => absurd c he, fun _ => S_Tr_crossing (sC_R h) (by omega) (G_Vp_cross_37 ⟨fun _ => cE h, fun c => absurd ((p_in_cr (by omega) hne).mpr hc) c⟩)⟩, fun c => absurd (tR_lt (sC_R h) hb) c⟩, fun c => absurd (tR_lt (sC_R h) ha) c⟩
          · have h8 := s_n8 h.1
            exact G_Md_cross_0 ⟨fun _ => ⟨fun _ => ⟨fun c => absurd c he, fun _ => S_Md_doCross (sM_S h) (by omega) (by omega) (fun _ => G_Md_cross_27 ⟨fun c => absurd c n_10, fun _ => mE h⟩) (fun c => absurd hc c)⟩, fun c => absurd (tS_lt (sM_S h) hb) c⟩, fun c => absurd (tS_lt (sM_S h) ha) c⟩
        · refine ⟨0, s, fun w h => ?_, fun w h => ?_⟩
          · have h8 := s_n8 h.1
            exact G_Vp_cross_0 ⟨fun _ => ⟨fun _ => ⟨fun c => absurd c he, fun _ => S_Tr_crossing (sC_R h) (by omega) (G_Vp_cross_37 ⟨fun c => absurd ((p_in_cr (by omega) hne).mp c) hc, fun _ => cE h⟩)⟩, fun c => absurd (tR_lt (sC_R h) hb) c⟩, fun c => absurd (tR_lt (sC_R h) ha) c⟩
          · have h8 := s_n8 h.1
            exact G_Md_cross_0 ⟨fun _ => ⟨fun _ => ⟨fun c => absurd c he, fun _ => S_Md_doCross (sM_S h) (by omega) (by omega) (fun c => absurd c hc) (fun _ => G_Md_cross_27 ⟨fun _ => mE h, fun c => absurd rfl c⟩)⟩, fun c => absurd (tS_lt (sM_S h) hb) c⟩, fun c => absurd (tS_lt (sM_S h) ha) c⟩
    · exact ⟨(-1), s, fun w h => G_Vp_cross_0 ⟨fun _ => ⟨fun c => absurd ((pL_C h).mp c) hq, fun _ => cE h⟩, fun _ => cE h⟩, fun w h => G_Md_cross_0 ⟨fun _ => ⟨fun c => absurd ((pL_M h).mp c) hq, fun _ => mE h⟩, fun _ => mE h⟩⟩
  · exact ⟨(-1), s, fun w h => G_Vp_cross_0 ⟨fun c => absurd ((pL_C h).mp c) hp, fun _ => cE h⟩, fun w h => G_Md_cross_0 ⟨fun c => absurd ((pL_M h).mp c) hp, fun _ => mE h⟩⟩
theorem G_Vp_most_0 {d : Nat} {x1 : Int32} {w : xWd} {Q : xMV → xWd → Prop} (h : ((x1 < 0 → Q (xI (-2)) w) ∧ (¬ (x1 < 0) → ((x1 ≤ 2 → ((w 34 8 = 0 → Q (xI (-3)) w) ∧ (¬ (w 34 8 = 0) → ((x1 = 0 → xWp (d + 4) m_Tr_greatestPressure 0 [xA 5 34, xU, xU] [] w (fun a w' => xWp (d + 5) m_Vp_most 36 [xA 6 1, xI x1] (x_pu a []) w' Q)) ∧ (¬ (x1 = 0) → ((x1 = 1 → xWp (d + 4) m_Tr_howManyColours 0 [xA 5 34, xU, xU] [] w (fun a w' => xWp (d + 5) m_Vp_most 49 [xA 6 1, xI x1] (x_pu a []) w' Q)) ∧ (¬ (x1 = 1) → xWp (d + 4) m_Tr_howManyCross 0 [xA 5 34, xU, xU] [] w (fun a w' => xWp (d + 5) m_Vp_most 59 [xA 6 1, xI x1] (x_pu a []) w' Q)))))))) ∧ (¬ (x1 ≤ 2) → Q (xI (-2)) w))))) : xWp (d + 5) m_Vp_most 0 [xA 6 1, xI x1] [] w Q := by
  refine x_goN 2 (pc' := if x1 < 0 then 9 else 4) (ls' := [xA 6 1, xI x1]) (st' := []) (w' := w) rfl ?_
  refine x_br (fun c1 => ?_) (fun c1 => ?_)
  · skip
    refine x_goN 1 (pc' := 11) (ls' := [xA 6 1, xI x1]) (st' := [xI (-2)]) (w' := w) rfl ?_
    exact x_ret (P := True) rfl trivial (h.1 c1)
  · skip
    refine x_goN 3 (pc' := if x1 ≤ 2 then 12 else 9) (ls' := [xA 6 1, xI x1]) (st' := []) (w' := w) rfl ?_
    refine x_br (fun c2 => ?_) (fun c2 => ?_)
    · skip
      refine x_goN 4 (pc' := if w 34 8 = 0 then 22 else 25) (ls' := [xA 6 1, xI x1]) (st' := []) (w' := w) rfl ?_
      refine x_br (fun c3 => ?_) (fun c3 => ?_)
      · skip
        refine x_goN 1 (pc' := 24) (ls' := [xA 6 1, xI x1]) (st' := [xI (-3)]) (w' := w) rfl ?_
        exact x_ret (P := True) rfl trivial (((h.2 c1).1 c2).1 c3)
      · skip
        refine x_goN 2 (pc' := if x1 = 0 then 29 else 37) (ls' := [xA 6 1, xI x1]) (st' := []) (w' := w) rfl ?_
        refine x_br (fun c4 => ?_) (fun c4 => ?_)
        · skip
          refine x_goN 2 (pc' := 33) (ls' := [xA 6 1, xI x1]) (st' := [xA 5 34]) (w' := w) rfl ?_
          refine x_call (y := m_Tr_greatestPressure) (as := [xA 5 34]) (rst := []) rfl [xA 5 34, xU, xU] rfl ?_
          exact ((((h.2 c1).1 c2).2 c3).1 c4)
        · skip
          refine x_goN 3 (pc' := if x1 = 1 then 42 else 52) (ls' := [xA 6 1, xI x1]) (st' := []) (w' := w) rfl ?_
          refine x_br (fun c5 => ?_) (fun c5 => ?_)
          · skip
            refine x_goN 2 (pc' := 46) (ls' := [xA 6 1, xI x1]) (st' := [xA 5 34]) (w' := w) rfl ?_
            refine x_call (y := m_Tr_howManyColours) (as := [xA 5 34]) (rst := []) rfl [xA 5 34, xU, xU] rfl ?_
            exact (((((h.2 c1).1 c2).2 c3).2 c4).1 c5)
          · skip
            refine x_goN 2 (pc' := 56) (ls' := [xA 6 1, xI x1]) (st' := [xA 5 34]) (w' := w) rfl ?_
            refine x_call (y := m_Tr_howManyCross) (as := [xA 5 34]) (rst := []) rfl [xA 5 34, xU, xU] rfl ?_
            exact (((((h.2 c1).1 c2).2 c3).2 c4).2 c5)
    · skip
      refine x_goN 1 (pc' := 11) (ls' := [xA 6 1, xI x1]) (st' := [xI (-2)]) (w' := w) rfl ?_
      exact x_ret (P := True) rfl trivial ((h.2 c1).2 c2)
theorem G_Vp_most_36 {d : Nat} {x1 : Int32} {s0 : Int32} {w : xWd} {Q : xMV → xWd → Prop} (h : Q (xI s0) w) : xWp (d + 5) m_Vp_most 36 [xA 6 1, xI x1] [xI s0] w Q := by
  exact x_ret (P := True) rfl trivial h
theorem G_Vp_most_49 {d : Nat} {x1 : Int32} {s0 : Int32} {w : xWd} {Q : xMV → xWd → Prop} (h : xWp (d + 5) m_Vp_most 59 [xA 6 1, xI x1] [xI s0] w Q) : xWp (d + 5) m_Vp_most 49 [xA 6 1, xI x1] [xI s0] w Q := by
  refine x_goN 1 (pc' := 59) (ls' := [xA 6 1, xI x1]) (st' := [xI s0]) (w' := w) rfl ?_
  exact h
theorem G_Vp_most_59 {d : Nat} {x1 : Int32} {s0 : Int32} {w : xWd} {Q : xMV → xWd → Prop} (h : Q (xI s0) w) : xWp (d + 5) m_Vp_most 59 [xA 6 1, xI x1] [xI s0] w Q := by
  exact x_ret (P := True) rfl trivial h
theorem G_Md_most_0 {d : Nat} {x1 : Int32} {w : xWd} {Q : xMV → xWd → Prop} (h : ((p_wi x1 0 2 → ((w 2 5 = 0 → Q (xI (-3)) w) ∧ (¬ (w 2 5 = 0) → ((x1 = 0 → xWp (d + 4) m_Md_greatestPressure 0 [xA 7 2, xU, xU] [] w (fun a w' => xWp (d + 5) m_Md_most 30 [xA 7 2, xI x1] (x_pu a []) w' Q)) ∧ (¬ (x1 = 0) → ((x1 = 1 → xWp (d + 4) m_Md_manyColours 0 [xA 7 2, xU, xU] [] w (fun a w' => xWp (d + 5) m_Md_most 42 [xA 7 2, xI x1] (x_pu a []) w' Q)) ∧ (¬ (x1 = 1) → xWp (d + 4) m_Md_manyCross 0 [xA 7 2, xU, xU, xU] [] w (fun a w' => xWp (d + 5) m_Md_most 49 [xA 7 2, xI x1] (x_pu a []) w' Q)))))))) ∧ (¬ (p_wi x1 0 2) → Q (xI (-2)) w))) : xWp (d + 5) m_Md_most 0 [xA 7 2, xI x1] [] w Q := by
  refine x_goN 3 (pc' := 3) (ls' := [xA 7 2, xI x1]) (st' := [xI 2, xI 0, xI x1]) (w' := w) rfl ?_
  refine x_call (y := m_Md_within) (as := [xI x1, xI 0, xI 2]) (rst := []) rfl [xI x1, xI 0, xI 2] rfl ?_
  refine S_Md_within (fun c1 => ?_) (fun c1 => ?_)
  · skip
    refine x_goN 1 (pc' := if (1 : Int32) = (0 : Int32) then 9 else 12) (ls' := [xA 7 2, xI x1]) (st' := []) (w' := w) rfl ?_
    refine x_brF (by decide) ?_
    refine x_goN 3 (pc' := if w 2 5 = 0 then 19 else 22) (ls' := [xA 7 2, xI x1]) (st' := []) (w' := w) rfl ?_
    refine x_br (fun c2 => ?_) (fun c2 => ?_)
    · skip
      refine x_goN 1 (pc' := 21) (ls' := [xA 7 2, xI x1]) (st' := [xI (-3)]) (w' := w) rfl ?_
      exact x_ret (P := True) rfl trivial ((h.1 c1).1 c2)
    · skip
      refine x_goN 2 (pc' := if x1 = 0 then 26 else 33) (ls' := [xA 7 2, xI x1]) (st' := []) (w' := w) rfl ?_
      refine x_br (fun c3 => ?_) (fun c3 => ?_)
      · skip
        refine x_goN 1 (pc' := 27) (ls' := [xA 7 2, xI x1]) (st' := [xA 7 2]) (w' := w) rfl ?_
        refine x_call (y := m_Md_greatestPressure) (as := [xA 7 2]) (rst := []) rfl [xA 7 2, xU, xU] rfl ?_
        exact (((h.1 c1).2 c2).1 c3)
      · skip
        refine x_goN 3 (pc' := if x1 = 1 then 38 else 45) (ls' := [xA 7 2, xI x1]) (st' := []) (w' := w) rfl ?_
        refine x_br (fun c4 => ?_) (fun c4 => ?_)
        · skip
          refine x_goN 1 (pc' := 39) (ls' := [xA 7 2, xI x1]) (st' := [xA 7 2]) (w' := w) rfl ?_
          refine x_call (y := m_Md_manyColours) (as := [xA 7 2]) (rst := []) rfl [xA 7 2, xU, xU] rfl ?_
          exact ((((h.1 c1).2 c2).2 c3).1 c4)
        · skip
          refine x_goN 1 (pc' := 46) (ls' := [xA 7 2, xI x1]) (st' := [xA 7 2]) (w' := w) rfl ?_
          refine x_call (y := m_Md_manyCross) (as := [xA 7 2]) (rst := []) rfl [xA 7 2, xU, xU, xU] rfl ?_
          exact ((((h.1 c1).2 c2).2 c3).2 c4)
  · skip
    refine x_goN 1 (pc' := if (0 : Int32) = (0 : Int32) then 9 else 12) (ls' := [xA 7 2, xI x1]) (st' := []) (w' := w) rfl ?_
    refine x_brT (by decide) ?_
    refine x_goN 1 (pc' := 11) (ls' := [xA 7 2, xI x1]) (st' := [xI (-2)]) (w' := w) rfl ?_
    exact x_ret (P := True) rfl trivial (h.2 c1)
theorem G_Md_most_30 {d : Nat} {x1 : Int32} {s0 : Int32} {w : xWd} {Q : xMV → xWd → Prop} (h : xWp (d + 5) m_Md_most 49 [xA 7 2, xI x1] [xI s0] w Q) : xWp (d + 5) m_Md_most 30 [xA 7 2, xI x1] [xI s0] w Q := by
  refine x_goN 1 (pc' := 49) (ls' := [xA 7 2, xI x1]) (st' := [xI s0]) (w' := w) rfl ?_
  exact h
theorem G_Md_most_42 {d : Nat} {x1 : Int32} {s0 : Int32} {w : xWd} {Q : xMV → xWd → Prop} (h : xWp (d + 5) m_Md_most 49 [xA 7 2, xI x1] [xI s0] w Q) : xWp (d + 5) m_Md_most 42 [xA 7 2, xI x1] [xI s0] w Q := by
  refine x_goN 1 (pc' := 49) (ls' := [xA 7 2, xI x1]) (st' := [xI s0]) (w' := w) rfl ?_
  exact h
theorem G_Md_most_49 {d : Nat} {x1 : Int32} {s0 : Int32} {w : xWd} {Q : xMV → xWd → Prop} (h : Q (xI s0) w) : xWp (d + 5) m_Md_most 49 [xA 7 2, xI x1] [xI s0] w Q := by
  exact x_ret (P := True) rfl trivial h
theorem z_eq0 {n : Nat} (h : n ≤ 1000) : nI n = 0 ↔ n = 0 := z_eq (b := 0) (by omega) (by decide)
theorem O_most (s : xS) (x : Int32) : oB m_Vp_most [xA 6 1, xI x] m_Md_most [xA 7 2, xI x] s := by
  by_cases hp : p_wi x 0 2
  · have g0 : ¬ x < 0 := fun c => by rw [fa_lt, e_l0] at c; have := hp.1; rw [e_l0] at this; omega
    have g1 : x ≤ 2 := by rw [fa_le]; exact hp.2
    by_cases hn : tn (s_T s) = 0
    · exact ⟨(-3), s, fun w h => G_Vp_most_0 ⟨fun c => absurd c g0, fun _ => ⟨fun _ => ⟨fun _ => cE h, fun c => absurd (by rw [sC_n h, hn]; rfl) c⟩, fun c => absurd g1 c⟩⟩, fun w h => G_Md_most_0 ⟨fun _ => ⟨fun _ => mE h, fun c => absurd (by rw [sM_n h, hn]; rfl) c⟩, fun c => absurd hp c⟩⟩
    · have k0 : ∀ w, sC s w → ¬ w 34 8 = 0 := fun w h c => by rw [sC_n h, z_eq0 (by have := s_n8 h.1; omega)] at c; exact hn c
      have m0 : ∀ w, sM s w → ¬ w 2 5 = 0 := fun w h c => by rw [sM_n h, z_eq0 (by have := s_n8 h.1; omega)] at c; exact hn c
      by_cases c0 : x = 0
      · exact ⟨(nI (fMx (s_T s))), s, fun w h => G_Vp_most_0 ⟨fun c => absurd c g0, fun _ => ⟨fun _ => ⟨fun c => absurd c (k0 w h), fun _ => ⟨fun _ => S_Tr_greatestPressure (sC_R h) (G_Vp_most_36 (cE h)), fun c => absurd c0 c⟩⟩, fun c => absurd g1 c⟩⟩, fun w h => G_Md_most_0 ⟨fun _ => ⟨fun c => absurd c (m0 w h), fun _ => ⟨fun _ => S_Md_greatestPressure (sM_S h) (G_Md_most_30 (G_Md_most_49 (mE h))), fun c => absurd c0 c⟩⟩, fun c => absurd hp c⟩⟩
      · by_cases c1 : x = 1
        · exact ⟨(nI (nCo (s_T s))), s, fun w h => G_Vp_most_0 ⟨fun c => absurd c g0, fun _ => ⟨fun _ => ⟨fun c => absurd c (k0 w h), fun _ => ⟨fun c => absurd c c0, fun _ => ⟨fun _ => S_Tr_howManyColours (sC_R h) (fun w' g => G_Vp_most_49 (G_Vp_most_59 (cG_E h g))), fun c => absurd c1 c⟩⟩⟩, fun c => absurd g1 c⟩⟩, fun w h => G_Md_most_0 ⟨fun _ => ⟨fun c => absurd c (m0 w h), fun _ => ⟨fun c => absurd c c0, fun _ => ⟨fun _ => S_Md_manyColours (sM_S h) (fun w' g => G_Md_most_42 (G_Md_most_49 (cH_E h g))), fun c => absurd c1 c⟩⟩⟩, fun c => absurd hp c⟩⟩
        · exact ⟨(nI (nCr (s_T s))), s, fun w h => G_Vp_most_0 ⟨fun c => absurd c g0, fun _ => ⟨fun _ => ⟨fun c => absurd c (k0 w h), fun _ => ⟨fun c => absurd c c0, fun _ => ⟨fun c => absurd c c1, fun _ => S_Tr_howManyCross (sC_R h) (G_Vp_most_59 (cE h))⟩⟩⟩, fun c => absurd g1 c⟩⟩, fun w h => G_Md_most_0 ⟨fun _ => ⟨fun c => absurd c (m0 w h), fun _ => ⟨fun c => absurd c c0, fun _ => ⟨fun c => absurd c c1, fun _ => S_Md_manyCross (sM_S h) (G_Md_most_49 (mE h))⟩⟩⟩, fun c => absurd hp c⟩⟩
  · refine ⟨(-2), s, fun w h => G_Vp_most_0 ⟨fun _ => cE h, fun c => ⟨fun c2 => absurd ?_ hp, fun _ => cE h⟩⟩, fun w h => G_Md_most_0 ⟨fun c => absurd c hp, fun _ => mE h⟩⟩
    rw [fa_lt] at c
    rw [fa_le] at c2
    exact ⟨by omega, c2⟩
theorem G_Vp_next_0 {d : Nat} {T : xT} {x1 : Int32} {x2 : Int32} {w : xWd} {Q : xMV → xWd → Prop} (h : ((p_lt x1 (w 34 8) → ((p_lt x2 (w 34 8) → ((tR w 34 T) ∧ ((pB T x2 x1 → (vp_in x2 8 ∧ ((p_in (w 1095 x2.toNatClampNeg) x1 → xWp (d + 2) m_Vp_next 68 [xA 6 1, xI x1, xI x2] [xI 0] w Q) ∧ (¬ (p_in (w 1095 x2.toNatClampNeg) x1) → xWp (d + 1) m_Tr_laterUse 0 [xA 5 34, xI x1, xI x2, xU, xU, xU] [] w (fun a w' => xWp (d + 2) m_Vp_next 68 [xA 6 1, xI x1, xI x2] (x_pu a []) w' Q))))) ∧ (¬ (pB T x2 x1) → Q (xI (-3)) w)))) ∧ (¬ (p_lt x2 (w 34 8)) → Q (xI (-1)) w))) ∧ (¬ (p_lt x1 (w 34 8)) → Q (xI (-1)) w))) : xWp (d + 2) m_Vp_next 0 [xA 6 1, xI x1, xI x2] [] w Q := by
  refine x_goN 3 (pc' := 5) (ls' := [xA 6 1, xI x1, xI x2]) (st' := [xI x1, xA 5 34]) (w' := w) rfl ?_
  refine x_call (y := m_Tr_isLine) (as := [xA 5 34, xI x1]) (rst := []) rfl [xA 5 34, xI x1] rfl ?_
  refine S_Tr_isLine (fun c1 => ?_) (fun c1 => ?_)
  · skip
    refine x_goN 1 (pc' := if (1 : Int32) = (0 : Int32) then 22 else 11) (ls' := [xA 6 1, xI x1, xI x2]) (st' := []) (w' := w) rfl ?_
    refine x_brF (by decide) ?_
    refine x_goN 3 (pc' := 16) (ls' := [xA 6 1, xI x1, xI x2]) (st' := [xI x2, xA 5 34]) (w' := w) rfl ?_
    refine x_call (y := m_Tr_isLine) (as := [xA 5 34, xI x2]) (rst := []) rfl [xA 5 34, xI x2] rfl ?_
    refine S_Tr_isLine (fun c2 => ?_) (fun c2 => ?_)
    · skip
      refine x_goN 1 (pc' := if (1 : Int32) = (0 : Int32) then 22 else 24) (ls' := [xA 6 1, xI x1, xI x2]) (st' := []) (w' := w) rfl ?_
      refine x_brF (by decide) ?_
      refine x_goN 4 (pc' := 30) (ls' := [xA 6 1, xI x1, xI x2]) (st' := [xI x1, xI x2, xA 5 34]) (w' := w) rfl ?_
      refine x_call (y := m_Tr_isBelow) (as := [xA 5 34, xI x2, xI x1]) (rst := []) rfl [xA 5 34, xI x2, xI x1] rfl ?_
      refine S_Tr_isBelow ((h.1 c1).1 c2).1 (fun c3 => ?_) (fun c3 => ?_)
      · skip
        refine x_goN 1 (pc' := if (1 : Int32) = (0 : Int32) then 36 else 39) (ls' := [xA 6 1, xI x1, xI x2]) (st' := []) (w' := w) rfl ?_
        refine x_brF (by decide) ?_
        refine x_goN 4 (pc' := 47) (ls' := [xA 6 1, xI x1, xI x2]) (st' := [xI x2, xA 108 1095]) (w' := w) rfl ?_
        refine x_ob (P := vp_in x2 8) (pc' := 48) (ls' := [xA 6 1, xI x1, xI x2]) (st' := [xI (w 1095 x2.toNatClampNeg)]) (w' := w) rfl (((h.1 c1).1 c2).2.1 c3).1 ?_
        refine x_goN 1 (pc' := 49) (ls' := [xA 6 1, xI x1, xI x2]) (st' := [xI x1, xI (w 1095 x2.toNatClampNeg)]) (w' := w) rfl ?_
        refine x_call (y := m_Vp_inSet) (as := [xI (w 1095 x2.toNatClampNeg), xI x1]) (rst := []) rfl [xI (w 1095 x2.toNatClampNeg), xI x1] rfl ?_
        refine S_Vp_inSet (fun c4 => ?_) (fun c4 => ?_)
        · skip
          refine x_goN 1 (pc' := if (1 : Int32) = (0 : Int32) then 59 else 55) (ls' := [xA 6 1, xI x1, xI x2]) (st' := []) (w' := w) rfl ?_
          refine x_brF (by decide) ?_
          refine x_goN 2 (pc' := 68) (ls' := [xA 6 1, xI x1, xI x2]) (st' := [xI 0]) (w' := w) rfl ?_
          exact ((((h.1 c1).1 c2).2.1 c3).2.1 c4)
        · skip
          refine x_goN 1 (pc' := if (0 : Int32) = (0 : Int32) then 59 else 55) (ls' := [xA 6 1, xI x1, xI x2]) (st' := []) (w' := w) rfl ?_
          refine x_brT (by decide) ?_
          refine x_goN 4 (pc' := 65) (ls' := [xA 6 1, xI x1, xI x2]) (st' := [xI x2, xI x1, xA 5 34]) (w' := w) rfl ?_
          refine x_call (y := m_Tr_laterUse) (as := [xA 5 34, xI x1, xI x2]) (rst := []) rfl [xA 5 34, xI x1, xI x2, xU, xU, xU] rfl ?_
          exact ((((h.1 c1).1 c2).2.1 c3).2.2 c4)
      · skip
        refine x_goN 1 (pc' := if (0 : Int32) = (0 : Int32) then 36 else 39) (ls' := [xA 6 1, xI x1, xI x2]) (st' := []) (w' := w) rfl ?_
        refine x_brT (by decide) ?_
        refine x_goN 1 (pc' := 38) (ls' := [xA 6 1, xI x1, xI x2]) (st' := [xI (-3)]) (w' := w) rfl ?_
        exact x_ret (P := True) rfl trivial (((h.1 c1).1 c2).2.2 c3)
    · skip
      refine x_goN 1 (pc' := if (0 : Int32) = (0 : Int32) then 22 else 24) (ls' := [xA 6 1, xI x1, xI x2]) (st' := []) (w' := w) rfl ?_
      refine x_brT (by decide) ?_
      refine x_goN 1 (pc' := 23) (ls' := [xA 6 1, xI x1, xI x2]) (st' := [xI (-1)]) (w' := w) rfl ?_
      exact x_ret (P := True) rfl trivial ((h.1 c1).2 c2)
  · skip
    refine x_goN 1 (pc' := if (0 : Int32) = (0 : Int32) then 22 else 11) (ls' := [xA 6 1, xI x1, xI x2]) (st' := []) (w' := w) rfl ?_
    refine x_brT (by decide) ?_
    refine x_goN 1 (pc' := 23) (ls' := [xA 6 1, xI x1, xI x2]) (st' := [xI (-1)]) (w' := w) rfl ?_
    exact x_ret (P := True) rfl trivial (h.2 c1)
theorem G_Vp_next_68 {d : Nat} {x1 : Int32} {x2 : Int32} {s0 : Int32} {w : xWd} {Q : xMV → xWd → Prop} (h : Q (xI s0) w) : xWp (d + 2) m_Vp_next 68 [xA 6 1, xI x1, xI x2] [xI s0] w Q := by
  exact x_ret (P := True) rfl trivial h
theorem G_Md_next_0 {d : Nat} {x1 : Int32} {x2 : Int32} {w : xWd} {Q : xMV → xWd → Prop} (h : ((p_lt x1 (w 2 5) → ((p_lt x2 (w 2 5) → xWp (d + 1) m_Md_isBelow 0 [xA 7 2, xI x2, xI x1, xU] [] w (fun a w' => xWp (d + 2) m_Md_next 24 [xA 7 2, xI x1, xI x2] (x_pu a []) w' Q)) ∧ (¬ (p_lt x2 (w 2 5)) → Q (xI (-1)) w))) ∧ (¬ (p_lt x1 (w 2 5)) → Q (xI (-1)) w))) : xWp (d + 2) m_Md_next 0 [xA 7 2, xI x1, xI x2] [] w Q := by
  refine x_goN 2 (pc' := 2) (ls' := [xA 7 2, xI x1, xI x2]) (st' := [xI x1, xA 7 2]) (w' := w) rfl ?_
  refine x_call (y := m_Md_isLine) (as := [xA 7 2, xI x1]) (rst := []) rfl [xA 7 2, xI x1] rfl ?_
  refine S_Md_isLine (fun c1 => ?_) (fun c1 => ?_)
  · skip
    refine x_goN 1 (pc' := if (1 : Int32) = (0 : Int32) then 16 else 8) (ls' := [xA 7 2, xI x1, xI x2]) (st' := []) (w' := w) rfl ?_
    refine x_brF (by decide) ?_
    refine x_goN 2 (pc' := 10) (ls' := [xA 7 2, xI x1, xI x2]) (st' := [xI x2, xA 7 2]) (w' := w) rfl ?_
    refine x_call (y := m_Md_isLine) (as := [xA 7 2, xI x2]) (rst := []) rfl [xA 7 2, xI x2] rfl ?_
    refine S_Md_isLine (fun c2 => ?_) (fun c2 => ?_)
    · skip
      refine x_goN 1 (pc' := if (1 : Int32) = (0 : Int32) then 16 else 18) (ls' := [xA 7 2, xI x1, xI x2]) (st' := []) (w' := w) rfl ?_
      refine x_brF (by decide) ?_
      refine x_goN 3 (pc' := 21) (ls' := [xA 7 2, xI x1, xI x2]) (st' := [xI x1, xI x2, xA 7 2]) (w' := w) rfl ?_
      refine x_call (y := m_Md_isBelow) (as := [xA 7 2, xI x2, xI x1]) (rst := []) rfl [xA 7 2, xI x2, xI x1, xU] rfl ?_
      exact ((h.1 c1).1 c2)
    · skip
      refine x_goN 1 (pc' := if (0 : Int32) = (0 : Int32) then 16 else 18) (ls' := [xA 7 2, xI x1, xI x2]) (st' := []) (w' := w) rfl ?_
      refine x_brT (by decide) ?_
      refine x_goN 1 (pc' := 17) (ls' := [xA 7 2, xI x1, xI x2]) (st' := [xI (-1)]) (w' := w) rfl ?_
      exact x_ret (P := True) rfl trivial ((h.1 c1).2 c2)
  · skip
    refine x_goN 1 (pc' := if (0 : Int32) = (0 : Int32) then 16 else 8) (ls' := [xA 7 2, xI x1, xI x2]) (st' := []) (w' := w) rfl ?_
    refine x_brT (by decide) ?_
    refine x_goN 1 (pc' := 17) (ls' := [xA 7 2, xI x1, xI x2]) (st' := [xI (-1)]) (w' := w) rfl ?_
    exact x_ret (P := True) rfl trivial (h.2 c1)
theorem G_Md_next_24 {d : Nat} {x1 : Int32} {x2 : Int32} {s0 : Int32} {w : xWd} {Q : xMV → xWd → Prop} (h : ((s0 = 0 → Q (xI (-3)) w) ∧ (¬ (s0 = 0) → xWp (d + 1) m_Md_isUser 0 [xA 7 2, xI x2, xI x1, xU] [] w (fun a w' => xWp (d + 2) m_Md_next 36 [xA 7 2, xI x1, xI x2] (x_pu a []) w' Q)))) : xWp (d + 2) m_Md_next 24 [xA 7 2, xI x1, xI x2] [xI s0] w Q := by
  refine x_goN 1 (pc' := if s0 = 0 then 27 else 30) (ls' := [xA 7 2, xI x1, xI x2]) (st' := []) (w' := w) rfl ?_
  refine x_br (fun c1 => ?_) (fun c1 => ?_)
  · skip
    refine x_goN 1 (pc' := 29) (ls' := [xA 7 2, xI x1, xI x2]) (st' := [xI (-3)]) (w' := w) rfl ?_
    exact x_ret (P := True) rfl trivial (h.1 c1)
  · skip
    refine x_goN 3 (pc' := 33) (ls' := [xA 7 2, xI x1, xI x2]) (st' := [xI x1, xI x2, xA 7 2]) (w' := w) rfl ?_
    refine x_call (y := m_Md_isUser) (as := [xA 7 2, xI x2, xI x1]) (rst := []) rfl [xA 7 2, xI x2, xI x1, xU] rfl ?_
    exact (h.2 c1)
theorem G_Md_next_36 {d : Nat} {x1 : Int32} {x2 : Int32} {s0 : Int32} {w : xWd} {Q : xMV → xWd → Prop} (h : ((s0 = 0 → xWp (d + 1) m_Md_laterUse 0 [xA 7 2, xI x2, xI x1, xU, xU, xU, xU] [] w (fun a w' => xWp (d + 2) m_Md_next 49 [xA 7 2, xI x1, xI x2] (x_pu a []) w' Q)) ∧ (¬ (s0 = 0) → xWp (d + 2) m_Md_next 49 [xA 7 2, xI x1, xI x2] [xI 0] w Q))) : xWp (d + 2) m_Md_next 36 [xA 7 2, xI x1, xI x2] [xI s0] w Q := by
  refine x_goN 1 (pc' := if s0 = 0 then 43 else 39) (ls' := [xA 7 2, xI x1, xI x2]) (st' := []) (w' := w) rfl ?_
  refine x_br (fun c1 => ?_) (fun c1 => ?_)
  · skip
    refine x_goN 3 (pc' := 46) (ls' := [xA 7 2, xI x1, xI x2]) (st' := [xI x1, xI x2, xA 7 2]) (w' := w) rfl ?_
    refine x_call (y := m_Md_laterUse) (as := [xA 7 2, xI x2, xI x1]) (rst := []) rfl [xA 7 2, xI x2, xI x1, xU, xU, xU, xU] rfl ?_
    exact (h.1 c1)
  · skip
    refine x_goN 2 (pc' := 49) (ls' := [xA 7 2, xI x1, xI x2]) (st' := [xI 0]) (w' := w) rfl ?_
    exact (h.2 c1)
theorem G_Md_next_49 {d : Nat} {x1 : Int32} {x2 : Int32} {s0 : Int32} {w : xWd} {Q : xMV → xWd → Prop} (h : Q (xI s0) w) : xWp (d + 2) m_Md_next 49 [xA 7 2, xI x1, xI x2] [xI s0] w Q := by
  exact x_ret (P := True) rfl trivial h
theorem O_next (s : xS) (x1 x2 : Int32) : oB m_Vp_next [xA 6 1, xI x1, xI x2] m_Md_next [xA 7 2, xI x1, xI x2] s := by
  by_cases hp : pL (s_T s) x1
  · by_cases hq : pL (s_T s) x2
    · obtain ⟨v, hv, rfl⟩ := hp
      obtain ⟨l, hl, rfl⟩ := hq
      by_cases hb : tb (s_T s) l v = true
      · by_cases hu : tr (s_T s) l v = true
        · refine ⟨0, s, fun w h => ?_, fun w h => ?_⟩
          · have h8 := s_n8 h.1
            exact G_Vp_next_0 (T := s_T s) ⟨fun _ => ⟨fun _ => ⟨sC_R h, fun _ => ⟨z_in (by omega) (by decide), fun _ => G_Vp_next_68 (cE h), fun c => absurd ((tC_sp (sC_R h) hl (by omega)).mpr hu) c⟩, fun c => absurd ⟨l, v, rfl, rfl, hl, hv, hb⟩ c⟩, fun c => absurd (tR_lt (sC_R h) hl) c⟩, fun c => absurd (tR_lt (sC_R h) hv) c⟩
          · have h8 := s_n8 h.1
            exact G_Md_next_0 ⟨fun _ => ⟨fun _ => S_Md_isBelow (sM_S h) hl (by omega) (fun _ => G_Md_next_24 ⟨fun c => absurd c n_10, fun _ => S_Md_isUser (sM_S h) hl (by omega) (fun _ => G_Md_next_36 ⟨fun c => absurd c n_10, fun _ => G_Md_next_49 (mE h)⟩) (fun c => absurd hu c)⟩) (fun c => absurd hb c), fun c => absurd (tS_lt (sM_S h) hl) c⟩, fun c => absurd (tS_lt (sM_S h) hv) c⟩
        · refine ⟨(luI (tL (s_T s) l v)), s, fun w h => ?_, fun w h => ?_⟩
          · have h8 := s_n8 h.1
            exact G_Vp_next_0 (T := s_T s) ⟨fun _ => ⟨fun _ => ⟨sC_R h, fun _ => ⟨z_in (by omega) (by decide), fun c => absurd ((tC_sp (sC_R h) hl (by omega)).mp c) hu, fun _ => S_Tr_laterUse (sC_R h) (by omega) hl (G_Vp_next_68 (cE h))⟩, fun c => absurd ⟨l, v, rfl, rfl, hl, hv, hb⟩ c⟩, fun c => absurd (tR_lt (sC_R h) hl) c⟩, fun c => absurd (tR_lt (sC_R h) hv) c⟩
          · have h8 := s_n8 h.1
            exact G_Md_next_0 ⟨fun _ => ⟨fun _ => S_Md_isBelow (sM_S h) hl (by omega) (fun _ => G_Md_next_24 ⟨fun c => absurd c n_10, fun _ => S_Md_isUser (sM_S h) hl (by omega) (fun c => absurd c hu) (fun _ => G_Md_next_36 ⟨fun _ => S_Md_laterUse (sM_S h) (by omega) hl (G_Md_next_49 (mE h)), fun c => absurd rfl c⟩)⟩) (fun c => absurd hb c), fun c => absurd (tS_lt (sM_S h) hl) c⟩, fun c => absurd (tS_lt (sM_S h) hv) c⟩
      · refine ⟨(-3), s, fun w h => ?_, fun w h => ?_⟩
        · have h8 := s_n8 h.1
          refine G_Vp_next_0 (T := s_T s) ⟨fun _ => ⟨fun _ => ⟨sC_R h, fun c => ?_, fun _ => cE h⟩, fun c => absurd (tR_lt (sC_R h) hl) c⟩, fun c => absurd (tR_lt (sC_R h) hv) c⟩
          obtain ⟨l', v', e1, e2, a1, a2, a3⟩ := c
          have := (z_eq (by omega) (by omega)).mp e1
          subst this
          have := (z_eq (by omega) (by omega)).mp e2
          subst this
          exact absurd a3 hb
        · have h8 := s_n8 h.1
          exact G_Md_next_0 ⟨fun _ => ⟨fun _ => S_Md_isBelow (sM_S h) hl (by omega) (fun c => absurd c hb) (fun _ => G_Md_next_24 ⟨fun _ => mE h, fun c => absurd rfl c⟩), fun c => absurd (tS_lt (sM_S h) hl) c⟩, fun c => absurd (tS_lt (sM_S h) hv) c⟩
    · exact ⟨(-1), s, fun w h => G_Vp_next_0 (T := s_T s) ⟨fun _ => ⟨fun c => absurd ((pL_C h).mp c) hq, fun _ => cE h⟩, fun _ => cE h⟩, fun w h => G_Md_next_0 ⟨fun _ => ⟨fun c => absurd ((pL_M h).mp c) hq, fun _ => mE h⟩, fun _ => mE h⟩⟩
  · exact ⟨(-1), s, fun w h => G_Vp_next_0 (T := s_T s) ⟨fun c => absurd ((pL_C h).mp c) hp, fun _ => cE h⟩, fun w h => G_Md_next_0 ⟨fun c => absurd ((pL_M h).mp c) hp, fun _ => mE h⟩⟩
theorem G_Vp_many_0 {d : Nat} {x1 : Int32} {w : xWd} {Q : xMV → xWd → Prop} (h : ((x1 = 0 → Q (xI (w 34 8)) w) ∧ (¬ (x1 = 0) → ((x1 = 1 → xWp (d + 4) m_Tr_howManyUsedOfAll 0 [xA 5 34, xU, xU] [] w (fun a w' => xWp (d + 5) m_Vp_many 51 [xA 6 1, xI x1] (x_pu a []) w' Q)) ∧ (¬ (x1 = 1) → ((x1 = 2 → xWp (d + 4) m_Tr_greatestPressure 0 [xA 5 34, xU, xU] [] w (fun a w' => xWp (d + 5) m_Vp_many 59 [xA 6 1, xI x1] (x_pu a []) w' Q)) ∧ (¬ (x1 = 2) → ((x1 = 3 → xWp (d + 4) m_Tr_howManyColours 0 [xA 5 34, xU, xU] [] w (fun a w' => xWp (d + 5) m_Vp_many 67 [xA 6 1, xI x1] (x_pu a []) w' Q)) ∧ (¬ (x1 = 3) → ((x1 = 4 → Q (xI (w 39 2)) w) ∧ (¬ (x1 = 4) → Q (xI (-2)) w))))))))))) : xWp (d + 5) m_Vp_many 0 [xA 6 1, xI x1] [] w Q := by
  refine x_goN 2 (pc' := if x1 = 0 then 36 else if x1 = 1 then 44 else if x1 = 2 then 52 else if x1 = 3 then 60 else if x1 = 4 then 68 else 76) (ls' := [xA 6 1, xI x1]) (st' := []) (w' := w) rfl ?_
  refine x_br (fun c1 => ?_) (fun c1 => ?_)
  · skip
    refine x_goN 3 (pc' := 43) (ls' := [xA 6 1, xI x1]) (st' := [xI (w 34 8)]) (w' := w) rfl ?_
    exact x_ret (P := True) rfl trivial (h.1 c1)
  · skip
    refine x_br (fun c2 => ?_) (fun c2 => ?_)
    · skip
      refine x_goN 2 (pc' := 48) (ls' := [xA 6 1, xI x1]) (st' := [xA 5 34]) (w' := w) rfl ?_
      refine x_call (y := m_Tr_howManyUsedOfAll) (as := [xA 5 34]) (rst := []) rfl [xA 5 34, xU, xU] rfl ?_
      exact ((h.2 c1).1 c2)
    · skip
      refine x_br (fun c3 => ?_) (fun c3 => ?_)
      · skip
        refine x_goN 2 (pc' := 56) (ls' := [xA 6 1, xI x1]) (st' := [xA 5 34]) (w' := w) rfl ?_
        refine x_call (y := m_Tr_greatestPressure) (as := [xA 5 34]) (rst := []) rfl [xA 5 34, xU, xU] rfl ?_
        exact (((h.2 c1).2 c2).1 c3)
      · skip
        refine x_br (fun c4 => ?_) (fun c4 => ?_)
        · skip
          refine x_goN 2 (pc' := 64) (ls' := [xA 6 1, xI x1]) (st' := [xA 5 34]) (w' := w) rfl ?_
          refine x_call (y := m_Tr_howManyColours) (as := [xA 5 34]) (rst := []) rfl [xA 5 34, xU, xU] rfl ?_
          exact ((((h.2 c1).2 c2).2 c3).1 c4)
        · skip
          refine x_br (fun c5 => ?_) (fun c5 => ?_)
          · skip
            refine x_goN 3 (pc' := 75) (ls' := [xA 6 1, xI x1]) (st' := [xI (w 39 2)]) (w' := w) rfl ?_
            exact x_ret (P := True) rfl trivial (((((h.2 c1).2 c2).2 c3).2 c4).1 c5)
          · skip
            refine x_goN 1 (pc' := 78) (ls' := [xA 6 1, xI x1]) (st' := [xI (-2)]) (w' := w) rfl ?_
            exact x_ret (P := True) rfl trivial (((((h.2 c1).2 c2).2 c3).2 c4).2 c5)
theorem G_Vp_many_51 {d : Nat} {x1 : Int32} {s0 : Int32} {w : xWd} {Q : xMV → xWd → Prop} (h : Q (xI s0) w) : xWp (d + 5) m_Vp_many 51 [xA 6 1, xI x1] [xI s0] w Q := by
  exact x_ret (P := True) rfl trivial h
theorem G_Vp_many_59 {d : Nat} {x1 : Int32} {s0 : Int32} {w : xWd} {Q : xMV → xWd → Prop} (h : Q (xI s0) w) : xWp (d + 5) m_Vp_many 59 [xA 6 1, xI x1] [xI s0] w Q := by
  exact x_ret (P := True) rfl trivial h
theorem G_Vp_many_67 {d : Nat} {x1 : Int32} {s0 : Int32} {w : xWd} {Q : xMV → xWd → Prop} (h : Q (xI s0) w) : xWp (d + 5) m_Vp_many 67 [xA 6 1, xI x1] [xI s0] w Q := by
  exact x_ret (P := True) rfl trivial h
theorem G_Md_many_0 {d : Nat} {x1 : Int32} {w : xWd} {Q : xMV → xWd → Prop} (h : ((x1 = 0 → Q (xI (w 2 5)) w) ∧ (¬ (x1 = 0) → ((x1 = 1 → xWp (d + 5) m_Md_many 43 [xA 7 2, xI x1, xI 0, xI 0] [] w Q) ∧ (¬ (x1 = 1) → ((x1 = 2 → xWp (d + 4) m_Md_greatestPressure 0 [xA 7 2, xU, xU] [] w (fun a w' => xWp (d + 5) m_Md_many 72 [xA 7 2, xI x1, xI 0, xU] (x_pu a []) w' Q)) ∧ (¬ (x1 = 2) → ((x1 = 3 → xWp (d + 4) m_Md_manyColours 0 [xA 7 2, xU, xU] [] w (fun a w' => xWp (d + 5) m_Md_many 77 [xA 7 2, xI x1, xI 0, xU] (x_pu a []) w' Q)) ∧ (¬ (x1 = 3) → ((x1 = 4 → Q (xI (w 2 26)) w) ∧ (¬ (x1 = 4) → Q (xI (-2)) w))))))))))) : xWp (d + 5) m_Md_many 0 [xA 7 2, xI x1, xU, xU] [] w Q := by
  refine x_goN 4 (pc' := if x1 = 0 then 36 else if x1 = 1 then 41 else if x1 = 2 then 68 else if x1 = 3 then 73 else if x1 = 4 then 78 else 83) (ls' := [xA 7 2, xI x1, xI 0, xU]) (st' := []) (w' := w) rfl ?_
  refine x_br (fun c1 => ?_) (fun c1 => ?_)
  · skip
    refine x_goN 2 (pc' := 40) (ls' := [xA 7 2, xI x1, xI 0, xU]) (st' := [xI (w 2 5)]) (w' := w) rfl ?_
    exact x_ret (P := True) rfl trivial (h.1 c1)
  · skip
    refine x_br (fun c2 => ?_) (fun c2 => ?_)
    · skip
      refine x_goN 2 (pc' := 43) (ls' := [xA 7 2, xI x1, xI 0, xI 0]) (st' := []) (w' := w) rfl ?_
      exact ((h.2 c1).1 c2)
    · skip
      refine x_br (fun c3 => ?_) (fun c3 => ?_)
      · skip
        refine x_goN 1 (pc' := 69) (ls' := [xA 7 2, xI x1, xI 0, xU]) (st' := [xA 7 2]) (w' := w) rfl ?_
        refine x_call (y := m_Md_greatestPressure) (as := [xA 7 2]) (rst := []) rfl [xA 7 2, xU, xU] rfl ?_
        exact (((h.2 c1).2 c2).1 c3)
      · skip
        refine x_br (fun c4 => ?_) (fun c4 => ?_)
        · skip
          refine x_goN 1 (pc' := 74) (ls' := [xA 7 2, xI x1, xI 0, xU]) (st' := [xA 7 2]) (w' := w) rfl ?_
          refine x_call (y := m_Md_manyColours) (as := [xA 7 2]) (rst := []) rfl [xA 7 2, xU, xU] rfl ?_
          exact ((((h.2 c1).2 c2).2 c3).1 c4)
        · skip
          refine x_br (fun c5 => ?_) (fun c5 => ?_)
          · skip
            refine x_goN 2 (pc' := 82) (ls' := [xA 7 2, xI x1, xI 0, xU]) (st' := [xI (w 2 26)]) (w' := w) rfl ?_
            exact x_ret (P := True) rfl trivial (((((h.2 c1).2 c2).2 c3).2 c4).1 c5)
          · skip
            refine x_goN 1 (pc' := 85) (ls' := [xA 7 2, xI x1, xI 0, xU]) (st' := [xI (-2)]) (w' := w) rfl ?_
            exact x_ret (P := True) rfl trivial (((((h.2 c1).2 c2).2 c3).2 c4).2 c5)
theorem G_Md_many_43 {d : Nat} {x1 : Int32} {x2 : Int32} {x3 : Int32} {w : xWd} {Q : xMV → xWd → Prop} (h : ((w 2 5 ≤ x3 → Q (xI x2) w) ∧ (¬ (w 2 5 ≤ x3) → (vp_in x3 8 ∧ xWp (d + 5) m_Md_many 43 [xA 7 2, xI x1, xI (x2 + (w 73 x3.toNatClampNeg)), xI (x3 + 1)] [] w Q)))) : xWp (d + 5) m_Md_many 43 [xA 7 2, xI x1, xI x2, xI x3] [] w Q := by
  refine x_goN 4 (pc' := if w 2 5 ≤ x3 then 66 else 51) (ls' := [xA 7 2, xI x1, xI x2, xI x3]) (st' := []) (w' := w) rfl ?_
  refine x_br (fun c1 => ?_) (fun c1 => ?_)
  · skip
    refine x_goN 1 (pc' := 67) (ls' := [xA 7 2, xI x1, xI x2, xI x3]) (st' := [xI x2]) (w' := w) rfl ?_
    exact x_ret (P := True) rfl trivial (h.1 c1)
  · skip
    refine x_goN 4 (pc' := 57) (ls' := [xA 7 2, xI x1, xI x2, xI x3]) (st' := [xI x3, xA 108 73, xI x2]) (w' := w) rfl ?_
    refine x_ob (P := vp_in x3 8) (pc' := 58) (ls' := [xA 7 2, xI x1, xI x2, xI x3]) (st' := [xI (w 73 x3.toNatClampNeg), xI x2]) (w' := w) rfl (h.2 c1).1 ?_
    refine x_goN 4 (pc' := 43) (ls' := [xA 7 2, xI x1, xI (x2 + (w 73 x3.toNatClampNeg)), xI (x3 + 1)]) (st' := []) (w' := w) rfl ?_
    exact (h.2 c1).2
theorem G_Md_many_72 {d : Nat} {x1 : Int32} {x2 : Int32} {s0 : Int32} {w : xWd} {Q : xMV → xWd → Prop} (h : Q (xI s0) w) : xWp (d + 5) m_Md_many 72 [xA 7 2, xI x1, xI x2, xU] [xI s0] w Q := by
  exact x_ret (P := True) rfl trivial h
theorem G_Md_many_77 {d : Nat} {x1 : Int32} {x2 : Int32} {s0 : Int32} {w : xWd} {Q : xMV → xWd → Prop} (h : Q (xI s0) w) : xWp (d + 5) m_Md_many 77 [xA 7 2, xI x1, xI x2, xU] [xI s0] w Q := by
  exact x_ret (P := True) rfl trivial h
theorem L_Md_many {d : Nat} {T : xT} {w : xWd} {Q : xMV → xWd → Prop} {x : Int32} (hS : tS w T) (h : Q (xI (nI (z_sm (tn T) (tm T)))) w) : ∀ k l : Nat, l + k = tn T → xWp (d + 5) m_Md_many 43 [xA 7 2, xI x, xI (nI (z_sm l (tm T))), xI (nI l)] [] w Q := by
  have h8 := tS_n8 hS
  intro k
  induction k with
  | zero =>
    intro l hl
    have e : l = tn T := by omega
    subst e
    exact G_Md_many_43 ⟨fun _ => h, fun c => absurd (tS_end hS) c⟩
  | succ k ih =>
    intro l hl
    have hlt : l < tn T := by omega
    refine G_Md_many_43 ⟨fun c => absurd c (tS_ge hS hlt), fun c => ⟨z_in (by omega) (by decide), ?_⟩⟩
    rw [tM_m hS hlt, nI_add, nI_1]
    exact ih (l + 1) (by omega)
theorem O_many (s : xS) (x : Int32) : oB m_Vp_many [xA 6 1, xI x] m_Md_many [xA 7 2, xI x, xU, xU] s := by
  by_cases c0 : x = 0
  · exact ⟨(nI (tn (s_T s))), s, fun w h => G_Vp_many_0 ⟨fun _ => cEe (congrArg xI (sC_n h)) h, fun c => absurd c0 c⟩, fun w h => G_Md_many_0 ⟨fun _ => mEe (congrArg xI (sM_n h)) h, fun c => absurd c0 c⟩⟩
  by_cases c1 : x = 1
  · exact ⟨(nI (z_sm (tn (s_T s)) (tm (s_T s)))), s, fun w h => G_Vp_many_0 ⟨fun c => absurd c c0, fun _ => ⟨fun _ => S_Tr_howManyUsedOfAll (sC_R h) (G_Vp_many_51 (cE h)), fun c => absurd c1 c⟩⟩, fun w h => G_Md_many_0 ⟨fun c => absurd c c0, fun _ => ⟨fun _ => L_Md_many (sM_S h) (mE h) (tn (s_T s)) 0 (Nat.zero_add _), fun c => absurd c1 c⟩⟩⟩
  by_cases c2 : x = 2
  · exact ⟨(nI (fMx (s_T s))), s, fun w h => G_Vp_many_0 ⟨fun c => absurd c c0, fun _ => ⟨fun c => absurd c c1, fun _ => ⟨fun _ => S_Tr_greatestPressure (sC_R h) (G_Vp_many_59 (cE h)), fun c => absurd c2 c⟩⟩⟩, fun w h => G_Md_many_0 ⟨fun c => absurd c c0, fun _ => ⟨fun c => absurd c c1, fun _ => ⟨fun _ => S_Md_greatestPressure (sM_S h) (G_Md_many_72 (mE h)), fun c => absurd c2 c⟩⟩⟩⟩
  by_cases c3 : x = 3
  · exact ⟨(nI (nCo (s_T s))), s, fun w h => G_Vp_many_0 ⟨fun c => absurd c c0, fun _ => ⟨fun c => absurd c c1, fun _ => ⟨fun c => absurd c c2, fun _ => ⟨fun _ => S_Tr_howManyColours (sC_R h) (fun w' g => G_Vp_many_67 (cG_E h g)), fun c => absurd c3 c⟩⟩⟩⟩, fun w h => G_Md_many_0 ⟨fun c => absurd c c0, fun _ => ⟨fun c => absurd c c1, fun _ => ⟨fun c => absurd c c2, fun _ => ⟨fun _ => S_Md_manyColours (sM_S h) (fun w' g => G_Md_many_77 (cH_E h g)), fun c => absurd c3 c⟩⟩⟩⟩⟩
  by_cases c4 : x = 4
  · exact ⟨(nI (r_n s)), s, fun w h => G_Vp_many_0 ⟨fun c => absurd c c0, fun _ => ⟨fun c => absurd c c1, fun _ => ⟨fun c => absurd c c2, fun _ => ⟨fun c => absurd c c3, fun _ => ⟨fun _ => cEe (congrArg xI h.2.2.2.1.1) h, fun c => absurd c4 c⟩⟩⟩⟩⟩, fun w h => G_Md_many_0 ⟨fun c => absurd c c0, fun _ => ⟨fun c => absurd c c1, fun _ => ⟨fun c => absurd c c2, fun _ => ⟨fun c => absurd c c3, fun _ => ⟨fun _ => mEe (congrArg xI h.2.2.2.1.1) h, fun c => absurd c4 c⟩⟩⟩⟩⟩⟩
  exact ⟨(-2), s, fun w h => G_Vp_many_0 ⟨fun c => absurd c c0, fun _ => ⟨fun c => absurd c c1, fun _ => ⟨fun c => absurd c c2, fun _ => ⟨fun c => absurd c c3, fun _ => ⟨fun c => absurd c c4, fun _ => cE h⟩⟩⟩⟩⟩, fun w h => G_Md_many_0 ⟨fun c => absurd c c0, fun _ => ⟨fun c => absurd c c1, fun _ => ⟨fun c => absurd c c2, fun _ => ⟨fun c => absurd c c3, fun _ => ⟨fun c => absurd c c4, fun _ => mE h⟩⟩⟩⟩⟩⟩

