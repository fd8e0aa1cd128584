/-! THE STATE that both sides hold: sheets (0: nothing, else lane + 1; how long; cells), lines, readings (how many, values, costs), trace, fault -/
abbrev xS : Type := ((Nat → Nat) × (Nat → Nat) × (Nat → Nat → Int32)) × xT × (Nat × (Nat → Nat) × (Nat → Nat)) × Int32 × Int32
def s_r (s : xS) : Nat → Nat := s.1.1
def s_n (s : xS) : Nat → Nat := s.1.2.1
def s_c (s : xS) : Nat → Nat → Int32 := s.1.2.2
def s_T (s : xS) : xT := s.2.1
def r_n (s : xS) : Nat := s.2.2.1.1
def r_v (s : xS) : Nat → Nat := s.2.2.1.2.1
def r_c (s : xS) : Nat → Nat := s.2.2.1.2.2
def s_t (s : xS) : Int32 := s.2.2.2.1
def s_f (s : xS) : Int32 := s.2.2.2.2
def sOk (s : xS) : Prop := (∀ k, k < 4 → s_r s k ≤ 3 ∧ s_n s k ≤ 60) ∧ tW (s_T s) ∧ r_n s ≤ 8 ∧ ∀ q, q < r_n s → r_v s q < tn (s_T s) ∧ r_c s q ≤ 20
/-- sheet k of the class -/
def cSh (r n : Nat) (c : Nat → Int32) (w : xWd) (k : Nat) : Prop := (r = 0 → w (1057 + k) 1 = 0 ∧ w (1057 + k) 3 = 0) ∧ (0 < r → w (1057 + k) 1 = 1 ∧ w (1057 + k) 2 = nI (r - 1) ∧ w (1057 + k) 3 = nI n) ∧ ∀ j, j < 60 → w (32 * (1057 + k) + 1) j = c j
/-- sheet k of the model -/
def mSh (r n : Nat) (c : Nat → Int32) (w : xWd) (k : Nat) : Prop := (r = 0 → w 67 k = -9) ∧ (0 < r → w 67 k = nI (r - 1) ∧ w 68 k = nI n) ∧ ∀ j, j < 60 → w 69 (60 * k + j) = c j
def cRd (s : xS) (w : xWd) : Prop := w 39 2 = nI (r_n s) ∧ ∀ q, q < r_n s → w 1249 q = nI (r_v s q) ∧ w 1250 q = nI (r_c s q)
def mRd (s : xS) (w : xWd) : Prop := w 2 26 = nI (r_n s) ∧ ∀ q, q < r_n s → w 92 q = nI (r_v s q) ∧ w 93 q = nI (r_c s q)
def sC (s : xS) (w : xWd) : Prop := sOk s ∧ (∀ k, k < 4 → cSh (s_r s k) (s_n s k) (s_c s k) w k) ∧ tC w 34 (s_T s) ∧ cRd s w ∧ w 1 7 = s_t s ∧ w 1 8 = s_f s
def sM (s : xS) (w : xWd) : Prop := sOk s ∧ (∀ k, k < 4 → mSh (s_r s k) (s_n s k) (s_c s k) w k) ∧ tM w (s_T s) ∧ mRd s w ∧ w 2 1 = s_t s ∧ w 2 0 = s_f s
/-- a call of the class leaves the model and the script; a call of the model leaves all but the model -/
def fC (w w' : xWd) : Prop := ∀ a, (a = 0 ∨ a = 2 ∨ a = 4 ∨ (65 ≤ a ∧ a ≤ 96)) → w' a = w a
def fM (w w' : xWd) : Prop := ∀ a, a ≠ 2 → (a < 65 ∨ 96 < a) → w' a = w a
theorem fC_rf (w : xWd) : fC w w := fun _ _ => rfl
theorem fM_rf (w : xWd) : fM w w := fun _ _ _ => rfl
theorem fC_tr {w w1 w2 : xWd} (h : fC w w1) (h2 : fC w1 w2) : fC w w2 := fun a ha => (h2 a ha).trans (h a ha)
theorem fM_tr {w w1 w2 : xWd} (h : fM w w1) (h2 : fM w1 w2) : fM w w2 := fun a ha hb => (h2 a ha hb).trans (h a ha hb)
theorem tC_fr {w w' : xWd} {t : Nat} {T : xT} (h : tC w t T) (he : w' t = w t) (ha : ∀ i, i < 7 → w' (32 * t + (i + 1)) = w (32 * t + (i + 1))) : tC w' t T := by
  refine ⟨by rw [he]; exact h.1, fun l hl => ?_⟩
  have e1 : w' (32 * t + 1) = _ := ha 0 (by decide)
  have e2 : w' (32 * t + 2) = _ := ha 1 (by decide)
  have e3 : w' (32 * t + 3) = _ := ha 2 (by decide)
  have e4 : w' (32 * t + 4) = _ := ha 3 (by decide)
  have e5 : w' (32 * t + 5) = _ := ha 4 (by decide)
  have e6 : w' (32 * t + 6) = _ := ha 5 (by decide)
  have e7 : w' (32 * t + 7) = _ := ha 6 (by decide)
  rw [e1, e2, e3, e4, e5, e6, e7]
  exact h.2 l hl
theorem cSh_fr {r n k : Nat} {c : Nat → Int32} {w w' : xWd} (h : cSh r n c w k) (e1 : w' (1057 + k) = w (1057 + k)) (e2 : w' (32 * (1057 + k) + 1) = w (32 * (1057 + k) + 1)) : cSh r n c w' k := by
  unfold cSh at h ⊢; rw [e1, e2]; exact h
/-- all that the class's state is told by: these cells -/
def fS (w w' : xWd) : Prop := ∀ a, (a = 1 ∨ a = 34 ∨ a = 39 ∨ (1057 ≤ a ∧ a ≤ 1060) ∨ (1089 ≤ a ∧ a ≤ 1095) ∨ a = 1249 ∨ a = 1250 ∨ 33825 ≤ a) → w' a = w a
theorem sC_fS {s : xS} {w w' : xWd} (h : sC s w) (hf : fS w w') : sC s w' := by
  obtain ⟨h1, h2, h3, h4, h5, h6⟩ := h
  refine ⟨h1, fun k hk => cSh_fr (h2 k hk) (hf _ (by omega)) (hf _ (by omega)), tC_fr h3 (hf _ (by omega)) (fun i hi => hf _ (by omega)), ?_, ?_, ?_⟩
  · unfold cRd; rw [hf 39 (by omega), hf 1249 (by omega), hf 1250 (by omega)]; exact h4
  · rw [hf 1 (by omega)]; exact h5
  · rw [hf 1 (by omega)]; exact h6
theorem sC_fM {s : xS} {w w' : xWd} (h : sC s w) (hf : fM w w') : sC s w' := sC_fS h (fun a ha => hf a (by omega) (by omega))
theorem sM_fC {s : xS} {w w' : xWd} (h : sM s w) (hf : fC w w') : sM s w' := by
  obtain ⟨h1, h2, h3, h4, h5, h6⟩ := h
  have e2 := hf 2 (by omega)
  refine ⟨h1, fun k hk => ?_, ?_, ?_, by rw [e2]; exact h5, by rw [e2]; exact h6⟩
  · unfold mSh; rw [hf 67 (by omega), hf 68 (by omega), hf 69 (by omega)]; exact h2 k hk
  · unfold tM; rw [e2, hf 71 (by omega), hf 72 (by omega), hf 73 (by omega), hf 74 (by omega)]; exact h3
  · unfold mRd; rw [e2, hf 92 (by omega), hf 93 (by omega)]; exact h4
/-! settings -/
def uF (s : xS) (f : Int32) : xS := (s.1, s.2.1, s.2.2.1, s.2.2.2.1, f)
def uTr (s : xS) (t : Int32) : xS := (s.1, s.2.1, s.2.2.1, t, s.2.2.2.2)
def uT (s : xS) (T : xT) : xS := (s.1, T, s.2.2.1, s.2.2.2.1, s.2.2.2.2)
def uR (s : xS) (n : Nat) (v c : Nat → Nat) : xS := (s.1, s.2.1, (n, v, c), s.2.2.2.1, s.2.2.2.2)
/-- sheet k becomes: kind r, length n, cells c -/
def uSh (s : xS) (k r n : Nat) (c : Nat → Int32) : xS := ((fun j => if j = k then r else s_r s j, fun j => if j = k then n else s_n s j, fun j => if j = k then c else s_c s j), s.2.1, s.2.2.1, s.2.2.2.1, s.2.2.2.2)
theorem sC_uF {s : xS} {w : xWd} {f : Int32} (h : sC s w) : sC (uF s f) (x_set w 1 8 f) := by
  obtain ⟨h1, h2, h3, h4, h5, h6⟩ := h
  refine ⟨h1, fun k hk => cSh_fr (h2 k hk) (x_set_o (by omega)) (x_set_o (by omega)), tC_fr h3 (x_set_o (by decide)) (fun i hi => x_set_o (by omega)), ?_, ?_, ?_⟩
  · unfold cRd; rw [x_set_o (by decide), x_set_o (by decide), x_set_o (by decide)]; exact h4
  · rw [x_set_s, upd_o (by decide)]; exact h5
  · rw [x_set_s, upd_s]; rfl
theorem sM_uF {s : xS} {w : xWd} {f : Int32} (h : sM s w) : sM (uF s f) (x_set w 2 0 f) := by
  obtain ⟨h1, h2, h3, h4, h5, h6⟩ := h
  refine ⟨h1, fun k hk => ?_, ?_, ?_, ?_, ?_⟩
  · unfold mSh; rw [x_set_o (by decide), x_set_o (by decide), x_set_o (by decide)]; exact h2 k hk
  · refine ⟨by rw [x_set_s, upd_o (by decide)]; exact h3.1, fun l hl => ?_⟩
    rw [x_set_o (by decide), x_set_o (by decide), x_set_o (by decide), x_set_o (by decide)]; exact h3.2 l hl
  · refine ⟨by rw [x_set_s, upd_o (by decide)]; exact h4.1, fun q hq => ?_⟩
    rw [x_set_o (by decide), x_set_o (by decide)]; exact h4.2 q hq
  · rw [x_set_s, upd_o (by decide)]; exact h5
  · rw [x_set_s, upd_s]; rfl
theorem sC_uTr {s : xS} {w : xWd} {f : Int32} (h : sC s w) : sC (uTr s f) (x_set w 1 7 f) := by
  obtain ⟨h1, h2, h3, h4, h5, h6⟩ := h
  refine ⟨h1, fun k hk => cSh_fr (h2 k hk) (x_set_o (by omega)) (x_set_o (by omega)), tC_fr h3 (x_set_o (by decide)) (fun i hi => x_set_o (by omega)), ?_, ?_, ?_⟩
  · unfold cRd; rw [x_set_o (by decide), x_set_o (by decide), x_set_o (by decide)]; exact h4
  · rw [x_set_s, upd_s]; rfl
  · rw [x_set_s, upd_o (by decide)]; exact h6
theorem sM_uTr {s : xS} {w : xWd} {f : Int32} (h : sM s w) : sM (uTr s f) (x_set w 2 1 f) := by
  obtain ⟨h1, h2, h3, h4, h5, h6⟩ := h
  refine ⟨h1, fun k hk => ?_, ?_, ?_, ?_, ?_⟩
  · unfold mSh; rw [x_set_o (by decide), x_set_o (by decide), x_set_o (by decide)]; exact h2 k hk
  · refine ⟨by rw [x_set_s, upd_o (by decide)]; exact h3.1, fun l hl => ?_⟩
    rw [x_set_o (by decide), x_set_o (by decide), x_set_o (by decide), x_set_o (by decide)]; exact h3.2 l hl
  · refine ⟨by rw [x_set_s, upd_o (by decide)]; exact h4.1, fun q hq => ?_⟩
    rw [x_set_o (by decide), x_set_o (by decide)]; exact h4.2 q hq
  · rw [x_set_s, upd_s]; rfl
  · rw [x_set_s, upd_o (by decide)]; exact h6
theorem fC_set {w : xWd} {a j : Nat} {v : Int32} (h : a ≠ 0 ∧ a ≠ 2 ∧ a ≠ 4 ∧ (a < 65 ∨ 96 < a)) : fC w (x_set w a j v) := fun b hb => x_set_o (by omega)
theorem fM_set {w : xWd} {a j : Nat} {v : Int32} (h : a = 2 ∨ (65 ≤ a ∧ a ≤ 96)) : fM w (x_set w a j v) := fun b hb hb2 => x_set_o (by omega)
theorem sC_R {s : xS} {w : xWd} (h : sC s w) : tR w 34 (s_T s) := ⟨h.2.2.1, h.1.2.1⟩
theorem sM_S {s : xS} {w : xWd} (h : sM s w) : tS w (s_T s) := ⟨h.2.2.1, h.1.2.1⟩
/-! faults of cells -/
def vFa (r n : Nat) (lane i m : Int32) : Nat := if r = 0 then 1 else if lane = nI (r - 1) then (if m.toInt < 0 then 4 else if 0 ≤ i.toInt ∧ m.toInt + i.toInt ≤ n then 0 else 3) else 2
theorem z_sub_toInt {n : Nat} {m : Int32} (hn : n ≤ 60) (h0 : 0 ≤ m.toInt) (h1 : m.toInt ≤ n) : (nI n - m).toInt = n - m.toInt := by
  obtain ⟨j, rfl, e, -⟩ := z_of h0
  rw [pk_sub_toInt (by omega) (by omega)]; omega
theorem p_hc_iff {n : Nat} {i m : Int32} (hn : n ≤ 60) (hm : 0 ≤ m.toInt) : p_hc (nI n) i m ↔ 0 ≤ i.toInt ∧ m.toInt + i.toInt ≤ n := by
  unfold p_hc
  rw [nI_toInt (by omega)]
  constructor
  · rintro ⟨_, a, b, c⟩
    rw [z_sub_toInt hn hm b] at c
    omega
  · rintro ⟨a, b⟩
    refine ⟨hm, a, by omega, ?_⟩
    rw [z_sub_toInt hn hm (by omega)]; omega
theorem G_Sh_faultOfCells_0 {d : Nat} {a0 : Nat} {x1 : Int32} {x2 : Int32} {x3 : Int32} {w : xWd} {Q : xMV → xWd → Prop} (h : ((w a0 1 = 0 → ((w a0 1 = 0 → Q (xI 1) w) ∧ (¬ (w a0 1 = 0) → ((0 ≤ x3 → ((p_hc (w a0 3) x2 x3 → Q (xI 0) w) ∧ (¬ (p_hc (w a0 3) x2 x3) → Q (xI 3) w))) ∧ (¬ (0 ≤ x3) → Q (xI 4) w))))) ∧ (¬ (w a0 1 = 0) → ((w a0 2 = x1 → ((w a0 1 = 0 → Q (xI 1) w) ∧ (¬ (w a0 1 = 0) → ((0 ≤ x3 → ((p_hc (w a0 3) x2 x3 → Q (xI 0) w) ∧ (¬ (p_hc (w a0 3) x2 x3) → Q (xI 3) w))) ∧ (¬ (0 ≤ x3) → Q (xI 4) w))))) ∧ (¬ (w a0 2 = x1) → Q (xI 2) w))))) : xWp (d + 1) m_Sh_faultOfCells 0 [xA 3 a0, xI x1, xI x2, xI x3] [] w Q := by
  refine x_goN 3 (pc' := if w a0 1 = 0 then 17 else 7) (ls' := [xA 3 a0, xI x1, xI x2, xI x3]) (st' := []) (w' := w) rfl ?_
  refine x_br (fun c1 => ?_) (fun c1 => ?_)
  · skip
    refine x_goN 3 (pc' := if w a0 1 = 0 then 24 else 26) (ls' := [xA 3 a0, xI x1, xI x2, xI x3]) (st' := []) (w' := w) rfl ?_
    refine x_br (fun c2 => ?_) (fun c2 => ?_)
    · skip
      refine x_goN 1 (pc' := 25) (ls' := [xA 3 a0, xI x1, xI x2, xI x3]) (st' := [xI 1]) (w' := w) rfl ?_
      exact x_ret (P := True) rfl trivial ((h.1 c1).1 c2)
    · skip
      refine x_goN 2 (pc' := if 0 ≤ x3 then 32 else 30) (ls' := [xA 3 a0, xI x1, xI x2, xI x3]) (st' := []) (w' := w) rfl ?_
      refine x_br (fun c3 => ?_) (fun c3 => ?_)
      · skip
        refine x_goN 3 (pc' := 35) (ls' := [xA 3 a0, xI x1, xI x2, xI x3]) (st' := [xI x3, xI x2, xA 3 a0]) (w' := w) rfl ?_
        refine x_call (y := m_Sh_hasCells) (as := [xA 3 a0, xI x2, xI x3]) (rst := []) rfl [xA 3 a0, xI x2, xI x3] rfl ?_
        refine S_Sh_hasCells (fun c4 => ?_) (fun c4 => ?_)
        · skip
          refine x_goN 1 (pc' := if (1 : Int32) = (0 : Int32) then 45 else 41) (ls' := [xA 3 a0, xI x1, xI x2, xI x3]) (st' := []) (w' := w) rfl ?_
          refine x_brF (by decide) ?_
          refine x_goN 2 (pc' := 46) (ls' := [xA 3 a0, xI x1, xI x2, xI x3]) (st' := [xI 0]) (w' := w) rfl ?_
          exact x_ret (P := True) rfl trivial ((((h.1 c1).2 c2).1 c3).1 c4)
        · skip
          refine x_goN 1 (pc' := if (0 : Int32) = (0 : Int32) then 45 else 41) (ls' := [xA 3 a0, xI x1, xI x2, xI x3]) (st' := []) (w' := w) rfl ?_
          refine x_brT (by decide) ?_
          refine x_goN 1 (pc' := 46) (ls' := [xA 3 a0, xI x1, xI x2, xI x3]) (st' := [xI 3]) (w' := w) rfl ?_
          exact x_ret (P := True) rfl trivial ((((h.1 c1).2 c2).1 c3).2 c4)
      · skip
        refine x_goN 1 (pc' := 31) (ls' := [xA 3 a0, xI x1, xI x2, xI x3]) (st' := [xI 4]) (w' := w) rfl ?_
        exact x_ret (P := True) rfl trivial (((h.1 c1).2 c2).2 c3)
  · skip
    refine x_goN 4 (pc' := if w a0 2 = x1 then 17 else 15) (ls' := [xA 3 a0, xI x1, xI x2, xI x3]) (st' := []) (w' := w) rfl ?_
    refine x_br (fun c5 => ?_) (fun c5 => ?_)
    · skip
      refine x_goN 3 (pc' := if w a0 1 = 0 then 24 else 26) (ls' := [xA 3 a0, xI x1, xI x2, xI x3]) (st' := []) (w' := w) rfl ?_
      refine x_br (fun c6 => ?_) (fun c6 => ?_)
      · skip
        refine x_goN 1 (pc' := 25) (ls' := [xA 3 a0, xI x1, xI x2, xI x3]) (st' := [xI 1]) (w' := w) rfl ?_
        exact x_ret (P := True) rfl trivial (((h.2 c1).1 c5).1 c6)
      · skip
        refine x_goN 2 (pc' := if 0 ≤ x3 then 32 else 30) (ls' := [xA 3 a0, xI x1, xI x2, xI x3]) (st' := []) (w' := w) rfl ?_
        refine x_br (fun c7 => ?_) (fun c7 => ?_)
        · skip
          refine x_goN 3 (pc' := 35) (ls' := [xA 3 a0, xI x1, xI x2, xI x3]) (st' := [xI x3, xI x2, xA 3 a0]) (w' := w) rfl ?_
          refine x_call (y := m_Sh_hasCells) (as := [xA 3 a0, xI x2, xI x3]) (rst := []) rfl [xA 3 a0, xI x2, xI x3] rfl ?_
          refine S_Sh_hasCells (fun c8 => ?_) (fun c8 => ?_)
          · skip
            refine x_goN 1 (pc' := if (1 : Int32) = (0 : Int32) then 45 else 41) (ls' := [xA 3 a0, xI x1, xI x2, xI x3]) (st' := []) (w' := w) rfl ?_
            refine x_brF (by decide) ?_
            refine x_goN 2 (pc' := 46) (ls' := [xA 3 a0, xI x1, xI x2, xI x3]) (st' := [xI 0]) (w' := w) rfl ?_
            exact x_ret (P := True) rfl trivial (((((h.2 c1).1 c5).2 c6).1 c7).1 c8)
          · skip
            refine x_goN 1 (pc' := if (0 : Int32) = (0 : Int32) then 45 else 41) (ls' := [xA 3 a0, xI x1, xI x2, xI x3]) (st' := []) (w' := w) rfl ?_
            refine x_brT (by decide) ?_
            refine x_goN 1 (pc' := 46) (ls' := [xA 3 a0, xI x1, xI x2, xI x3]) (st' := [xI 3]) (w' := w) rfl ?_
            exact x_ret (P := True) rfl trivial (((((h.2 c1).1 c5).2 c6).1 c7).2 c8)
        · skip
          refine x_goN 1 (pc' := 31) (ls' := [xA 3 a0, xI x1, xI x2, xI x3]) (st' := [xI 4]) (w' := w) rfl ?_
          exact x_ret (P := True) rfl trivial ((((h.2 c1).1 c5).2 c6).2 c7)
    · skip
      refine x_goN 1 (pc' := 16) (ls' := [xA 3 a0, xI x1, xI x2, xI x3]) (st' := [xI 2]) (w' := w) rfl ?_
      exact x_ret (P := True) rfl trivial ((h.2 c1).2 c5)
theorem S_Sh_faultOfCells {d k r n : Nat} {c : Nat → Int32} {w : xWd} {Q : xMV → xWd → Prop} {lane i m : Int32} (hs : cSh r n c w k) (hr : r ≤ 3) (hn : n ≤ 60) (h : Q (xI (nI (vFa r n lane i m))) w) : xWp (d + 1) m_Sh_faultOfCells 0 [xA 3 (1057 + k), xI lane, xI i, xI m] [] w Q := by
  obtain ⟨h0, h1, -⟩ := hs
  unfold vFa at h
  refine G_Sh_faultOfCells_0 ⟨fun c1 => ⟨fun _ => ?_, fun c2 => absurd c1 c2⟩, fun c1 => ?_⟩
  · have e : r = 0 := by
      by_cases e : r = 0
      · exact e
      · rw [(h1 (by omega)).1] at c1; exact absurd c1 n_10
    rw [if_pos e] at h; exact h
  · have e : ¬ r = 0 := fun e => c1 (h0 e).1
    obtain ⟨g1, g2, g3⟩ := h1 (by omega)
    rw [g1, g2, g3]
    rw [if_neg e] at h
    refine ⟨fun c2 => ⟨fun c3 => absurd c3 n_10, fun _ => ⟨fun c4 => ?_, fun c4 => ?_⟩⟩, fun c2 => ?_⟩
    · rw [if_pos c2.symm] at h
      rw [fa_le, e_l0] at c4
      rw [if_neg (by omega)] at h
      refine ⟨fun c5 => ?_, fun c5 => ?_⟩
      · rw [if_pos ((p_hc_iff hn c4).mp c5)] at h; exact h
      · rw [if_neg (fun q => c5 ((p_hc_iff hn c4).mpr q))] at h; exact h
    · rw [if_pos c2.symm] at h
      rw [fa_le, e_l0] at c4
      rw [if_pos (by omega)] at h; exact h
    · rw [if_neg (fun q => c2 q.symm)] at h; exact h
theorem G_Md_against_0 {d : Nat} {x1 : Int32} {x2 : Int32} {x3 : Int32} {x4 : Int32} {w : xWd} {Q : xMV → xWd → Prop} (h : (vp_in x1 4 ∧ ((w 67 x1.toNatClampNeg = (-9) → (vp_in x1 4 ∧ ((w 67 x1.toNatClampNeg = (-9) → Q (xI 1) w) ∧ (¬ (w 67 x1.toNatClampNeg = (-9)) → ((0 ≤ x4 → ((x3 < 0 → Q (xI 3) w) ∧ (¬ (x3 < 0) → (vp_in x1 4 ∧ ((w 68 x1.toNatClampNeg < x3 → Q (xI 3) w) ∧ (¬ (w 68 x1.toNatClampNeg < x3) → (vp_in x1 4 ∧ ((x4 ≤ (w 68 x1.toNatClampNeg) - x3 → Q (xI 0) w) ∧ (¬ (x4 ≤ (w 68 x1.toNatClampNeg) - x3) → Q (xI 3) w))))))))) ∧ (¬ (0 ≤ x4) → Q (xI 4) w)))))) ∧ (¬ (w 67 x1.toNatClampNeg = (-9)) → (vp_in x1 4 ∧ ((w 67 x1.toNatClampNeg = x2 → (vp_in x1 4 ∧ ((w 67 x1.toNatClampNeg = (-9) → Q (xI 1) w) ∧ (¬ (w 67 x1.toNatClampNeg = (-9)) → ((0 ≤ x4 → ((x3 < 0 → Q (xI 3) w) ∧ (¬ (x3 < 0) → (vp_in x1 4 ∧ ((w 68 x1.toNatClampNeg < x3 → Q (xI 3) w) ∧ (¬ (w 68 x1.toNatClampNeg < x3) → (vp_in x1 4 ∧ ((x4 ≤ (w 68 x1.toNatClampNeg) - x3 → Q (xI 0) w) ∧ (¬ (x4 ≤ (w 68 x1.toNatClampNeg) - x3) → Q (xI 3) w))))))))) ∧ (¬ (0 ≤ x4) → Q (xI 4) w)))))) ∧ (¬ (w 67 x1.toNatClampNeg = x2) → Q (xI 2) w))))))) : xWp d m_Md_against 0 [xA 7 2, xI x1, xI x2, xI x3, xI x4] [] w Q := by
  refine x_goN 3 (pc' := 5) (ls' := [xA 7 2, xI x1, xI x2, xI x3, xI x4]) (st' := [xI x1, xA 104 67]) (w' := w) rfl ?_
  refine x_ob (P := vp_in x1 4) (pc' := 6) (ls' := [xA 7 2, xI x1, xI x2, xI x3, xI x4]) (st' := [xI (w 67 x1.toNatClampNeg)]) (w' := w) rfl h.1 ?_
  refine x_goN 2 (pc' := if w 67 x1.toNatClampNeg = (-9) then 23 else 11) (ls' := [xA 7 2, xI x1, xI x2, xI x3, xI x4]) (st' := []) (w' := w) rfl ?_
  refine x_br (fun c1 => ?_) (fun c1 => ?_)
  · skip
    refine x_goN 3 (pc' := 28) (ls' := [xA 7 2, xI x1, xI x2, xI x3, xI x4]) (st' := [xI x1, xA 104 67]) (w' := w) rfl ?_
    refine x_ob (P := vp_in x1 4) (pc' := 29) (ls' := [xA 7 2, xI x1, xI x2, xI x3, xI x4]) (st' := [xI (w 67 x1.toNatClampNeg)]) (w' := w) rfl (h.2.1 c1).1 ?_
    refine x_goN 2 (pc' := if w 67 x1.toNatClampNeg = (-9) then 34 else 36) (ls' := [xA 7 2, xI x1, xI x2, xI x3, xI x4]) (st' := []) (w' := w) rfl ?_
    refine x_br (fun c2 => ?_) (fun c2 => ?_)
    · skip
      refine x_goN 1 (pc' := 35) (ls' := [xA 7 2, xI x1, xI x2, xI x3, xI x4]) (st' := [xI 1]) (w' := w) rfl ?_
      exact x_ret (P := True) rfl trivial ((h.2.1 c1).2.1 c2)
    · skip
      refine x_goN 2 (pc' := if 0 ≤ x4 then 43 else 41) (ls' := [xA 7 2, xI x1, xI x2, xI x3, xI x4]) (st' := []) (w' := w) rfl ?_
      refine x_br (fun c3 => ?_) (fun c3 => ?_)
      · skip
        refine x_goN 2 (pc' := if x3 < 0 then 70 else 47) (ls' := [xA 7 2, xI x1, xI x2, xI x3, xI x4]) (st' := []) (w' := w) rfl ?_
        refine x_br (fun c4 => ?_) (fun c4 => ?_)
        · skip
          refine x_goN 2 (pc' := 75) (ls' := [xA 7 2, xI x1, xI x2, xI x3, xI x4]) (st' := [xI 3]) (w' := w) rfl ?_
          exact x_ret (P := True) rfl trivial ((((h.2.1 c1).2.2 c2).1 c3).1 c4)
        · skip
          refine x_goN 4 (pc' := 53) (ls' := [xA 7 2, xI x1, xI x2, xI x3, xI x4]) (st' := [xI x1, xA 104 68, xI x3]) (w' := w) rfl ?_
          refine x_ob (P := vp_in x1 4) (pc' := 54) (ls' := [xA 7 2, xI x1, xI x2, xI x3, xI x4]) (st' := [xI (w 68 x1.toNatClampNeg), xI x3]) (w' := w) rfl ((((h.2.1 c1).2.2 c2).1 c3).2 c4).1 ?_
          refine x_goN 1 (pc' := if w 68 x1.toNatClampNeg < x3 then 70 else 57) (ls' := [xA 7 2, xI x1, xI x2, xI x3, xI x4]) (st' := []) (w' := w) rfl ?_
          refine x_br (fun c5 => ?_) (fun c5 => ?_)
          · skip
            refine x_goN 2 (pc' := 75) (ls' := [xA 7 2, xI x1, xI x2, xI x3, xI x4]) (st' := [xI 3]) (w' := w) rfl ?_
            exact x_ret (P := True) rfl trivial (((((h.2.1 c1).2.2 c2).1 c3).2 c4).2.1 c5)
          · skip
            refine x_goN 4 (pc' := 64) (ls' := [xA 7 2, xI x1, xI x2, xI x3, xI x4]) (st' := [xI x1, xA 104 68, xI x4]) (w' := w) rfl ?_
            refine x_ob (P := vp_in x1 4) (pc' := 65) (ls' := [xA 7 2, xI x1, xI x2, xI x3, xI x4]) (st' := [xI (w 68 x1.toNatClampNeg), xI x4]) (w' := w) rfl (((((h.2.1 c1).2.2 c2).1 c3).2 c4).2.2 c5).1 ?_
            refine x_goN 3 (pc' := if x4 ≤ (w 68 x1.toNatClampNeg) - x3 then 74 else 70) (ls' := [xA 7 2, xI x1, xI x2, xI x3, xI x4]) (st' := []) (w' := w) rfl ?_
            refine x_br (fun c6 => ?_) (fun c6 => ?_)
            · skip
              refine x_goN 1 (pc' := 75) (ls' := [xA 7 2, xI x1, xI x2, xI x3, xI x4]) (st' := [xI 0]) (w' := w) rfl ?_
              exact x_ret (P := True) rfl trivial ((((((h.2.1 c1).2.2 c2).1 c3).2 c4).2.2 c5).2.1 c6)
            · skip
              refine x_goN 2 (pc' := 75) (ls' := [xA 7 2, xI x1, xI x2, xI x3, xI x4]) (st' := [xI 3]) (w' := w) rfl ?_
              exact x_ret (P := True) rfl trivial ((((((h.2.1 c1).2.2 c2).1 c3).2 c4).2.2 c5).2.2 c6)
      · skip
        refine x_goN 1 (pc' := 42) (ls' := [xA 7 2, xI x1, xI x2, xI x3, xI x4]) (st' := [xI 4]) (w' := w) rfl ?_
        exact x_ret (P := True) rfl trivial (((h.2.1 c1).2.2 c2).2 c3)
  · skip
    refine x_goN 3 (pc' := 16) (ls' := [xA 7 2, xI x1, xI x2, xI x3, xI x4]) (st' := [xI x1, xA 104 67]) (w' := w) rfl ?_
    refine x_ob (P := vp_in x1 4) (pc' := 17) (ls' := [xA 7 2, xI x1, xI x2, xI x3, xI x4]) (st' := [xI (w 67 x1.toNatClampNeg)]) (w' := w) rfl (h.2.2 c1).1 ?_
    refine x_goN 2 (pc' := if w 67 x1.toNatClampNeg = x2 then 23 else 21) (ls' := [xA 7 2, xI x1, xI x2, xI x3, xI x4]) (st' := []) (w' := w) rfl ?_
    refine x_br (fun c7 => ?_) (fun c7 => ?_)
    · skip
      refine x_goN 3 (pc' := 28) (ls' := [xA 7 2, xI x1, xI x2, xI x3, xI x4]) (st' := [xI x1, xA 104 67]) (w' := w) rfl ?_
      refine x_ob (P := vp_in x1 4) (pc' := 29) (ls' := [xA 7 2, xI x1, xI x2, xI x3, xI x4]) (st' := [xI (w 67 x1.toNatClampNeg)]) (w' := w) rfl ((h.2.2 c1).2.1 c7).1 ?_
      refine x_goN 2 (pc' := if w 67 x1.toNatClampNeg = (-9) then 34 else 36) (ls' := [xA 7 2, xI x1, xI x2, xI x3, xI x4]) (st' := []) (w' := w) rfl ?_
      refine x_br (fun c8 => ?_) (fun c8 => ?_)
      · skip
        refine x_goN 1 (pc' := 35) (ls' := [xA 7 2, xI x1, xI x2, xI x3, xI x4]) (st' := [xI 1]) (w' := w) rfl ?_
        exact x_ret (P := True) rfl trivial (((h.2.2 c1).2.1 c7).2.1 c8)
      · skip
        refine x_goN 2 (pc' := if 0 ≤ x4 then 43 else 41) (ls' := [xA 7 2, xI x1, xI x2, xI x3, xI x4]) (st' := []) (w' := w) rfl ?_
        refine x_br (fun c9 => ?_) (fun c9 => ?_)
        · skip
          refine x_goN 2 (pc' := if x3 < 0 then 70 else 47) (ls' := [xA 7 2, xI x1, xI x2, xI x3, xI x4]) (st' := []) (w' := w) rfl ?_
          refine x_br (fun c10 => ?_) (fun c10 => ?_)
          · skip
            refine x_goN 2 (pc' := 75) (ls' := [xA 7 2, xI x1, xI x2, xI x3, xI x4]) (st' := [xI 3]) (w' := w) rfl ?_
            exact x_ret (P := True) rfl trivial (((((h.2.2 c1).2.1 c7).2.2 c8).1 c9).1 c10)
          · skip
            refine x_goN 4 (pc' := 53) (ls' := [xA 7 2, xI x1, xI x2, xI x3, xI x4]) (st' := [xI x1, xA 104 68, xI x3]) (w' := w) rfl ?_
            refine x_ob (P := vp_in x1 4) (pc' := 54) (ls' := [xA 7 2, xI x1, xI x2, xI x3, xI x4]) (st' := [xI (w 68 x1.toNatClampNeg), xI x3]) (w' := w) rfl (((((h.2.2 c1).2.1 c7).2.2 c8).1 c9).2 c10).1 ?_
            refine x_goN 1 (pc' := if w 68 x1.toNatClampNeg < x3 then 70 else 57) (ls' := [xA 7 2, xI x1, xI x2, xI x3, xI x4]) (st' := []) (w' := w) rfl ?_
            refine x_br (fun c11 => ?_) (fun c11 => ?_)
            · skip
              refine x_goN 2 (pc' := 75) (ls' := [xA 7 2, xI x1, xI x2, xI x3, xI x4]) (st' := [xI 3]) (w' := w) rfl ?_
              exact x_ret (P := True) rfl trivial ((((((h.2.2 c1).2.1 c7).2.2 c8).1 c9).2 c10).2.1 c11)
            · skip
              refine x_goN 4 (pc' := 64) (ls' := [xA 7 2, xI x1, xI x2, xI x3, xI x4]) (st' := [xI x1, xA 104 68, xI x4]) (w' := w) rfl ?_
              refine x_ob (P := vp_in x1 4) (pc' := 65) (ls' := [xA 7 2, xI x1, xI x2, xI x3, xI x4]) (st' := [xI (w 68 x1.toNatClampNeg), xI x4]) (w' := w) rfl ((((((h.2.2 c1).2.1 c7).2.2 c8).1 c9).2 c10).2.2 c11).1 ?_
              refine x_goN 3 (pc' := if x4 ≤ (w 68 x1.toNatClampNeg) - x3 then 74 else 70) (ls' := [xA 7 2, xI x1, xI x2, xI x3, xI x4]) (st' := []) (w' := w) rfl ?_
              refine x_br (fun c12 => ?_) (fun c12 => ?_)
              · skip
                refine x_goN 1 (pc' := 75) (ls' := [xA 7 2, xI x1, xI x2, xI x3, xI x4]) (st' := [xI 0]) (w' := w) rfl ?_
                exact x_ret (P := True) rfl trivial (((((((h.2.2 c1).2.1 c7).2.2 c8).1 c9).2 c10).2.2 c11).2.1 c12)
              · skip
                refine x_goN 2 (pc' := 75) (ls' := [xA 7 2, xI x1, xI x2, xI x3, xI x4]) (st' := [xI 3]) (w' := w) rfl ?_
                exact x_ret (P := True) rfl trivial (((((((h.2.2 c1).2.1 c7).2.2 c8).1 c9).2 c10).2.2 c11).2.2 c12)
        · skip
          refine x_goN 1 (pc' := 42) (ls' := [xA 7 2, xI x1, xI x2, xI x3, xI x4]) (st' := [xI 4]) (w' := w) rfl ?_
          exact x_ret (P := True) rfl trivial ((((h.2.2 c1).2.1 c7).2.2 c8).2 c9)
    · skip
      refine x_goN 1 (pc' := 22) (ls' := [xA 7 2, xI x1, xI x2, xI x3, xI x4]) (st' := [xI 2]) (w' := w) rfl ?_
      exact x_ret (P := True) rfl trivial ((h.2.2 c1).2.2 c7)
theorem S_Md_against {d k r n : Nat} {c : Nat → Int32} {w : xWd} {Q : xMV → xWd → Prop} {lane i m : Int32} (hk : k < 4) (hs : mSh r n c w k) (hr : r ≤ 3) (hn : n ≤ 60) (h : Q (xI (nI (vFa r n lane i m))) w) : xWp d m_Md_against 0 [xA 7 2, xI (nI k), xI lane, xI i, xI m] [] w Q := by
  obtain ⟨h0, h1, -⟩ := hs
  unfold vFa at h
  have hin : vp_in (nI k) 4 := z_in hk (by decide)
  refine G_Md_against_0 ⟨hin, ?_⟩
  rw [z_cl' (by omega)]
  by_cases e : r = 0
  · rw [if_pos e] at h
    rw [h0 e]
    exact ⟨fun _ => ⟨hin, fun _ => h, fun q => absurd rfl q⟩, fun q => absurd rfl q⟩
  · obtain ⟨g1, g2⟩ := h1 (by omega)
    rw [if_neg e] at h
    rw [g1, g2]
    have hn9 : ¬ nI (r - 1) = -9 := fun q => z_n9 (by omega) q.symm
    refine ⟨fun q => absurd q hn9, fun _ => ⟨hin, fun c2 => ⟨hin, fun q => absurd q hn9, fun _ => ⟨fun c4 => ?_, fun c4 => ?_⟩⟩, fun c2 => ?_⟩⟩
    · rw [if_pos c2.symm] at h
      rw [fa_le, e_l0] at c4
      rw [if_neg (by omega)] at h
      simp only [fa_lt, fa_le, e_l0]
      rw [nI_toInt (by omega)]
      refine ⟨fun c5 => ?_, fun c5 => ⟨hin, fun c6 => ?_, fun c6 => ⟨hin, fun c7 => ?_, fun c7 => ?_⟩⟩⟩
      · rw [if_neg (by omega)] at h; exact h
      · rw [if_neg (by omega)] at h; exact h
      · rw [z_sub_toInt hn (by omega) (by omega)] at c7
        rw [if_pos (by omega)] at h; exact h
      · rw [z_sub_toInt hn (by omega) (by omega)] at c7
        rw [if_neg (by omega)] at h; exact h
    · rw [if_pos c2.symm] at h
      rw [fa_le, e_l0] at c4
      rw [if_pos (by omega)] at h; exact h
    · rw [if_neg (fun q => c2 q.symm)] at h; exact h

