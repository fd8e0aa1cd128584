/-! THE CLASS'S LINES: pressure, crossings, colours, later uses -/
theorem z_max {a b : Nat} (ha : a < 2 ^ 31) (hb : b < 2 ^ 31) : (if nI a < nI b then nI b else nI a) = nI (max a b) := by
  by_cases h : a < b
  · rw [if_pos ((z_lt ha hb).mpr h), Nat.max_eq_right (by omega)]
  · rw [if_neg (fun q => h ((z_lt ha hb).mp q)), Nat.max_eq_left (by omega)]
theorem z_min {a b : Nat} (ha : a < 2 ^ 31) (hb : b < 2 ^ 31) : (if nI b < nI a then nI b else nI a) = nI (min a b) := by
  by_cases h : b < a
  · rw [if_pos ((z_lt hb ha).mpr h), Nat.min_eq_right (by omega)]
  · rw [if_neg (fun q => h ((z_lt hb ha).mp q)), Nat.min_eq_left (by omega)]
theorem z_mx_s (k : Nat) (f : Nat → Nat) : z_mx (k + 1) f = max (z_mx k f) (f k) := rfl
theorem z_sm_s (k : Nat) (f : Nat → Nat) : z_sm (k + 1) f = z_sm k f + f k := rfl
def fMx (T : xT) : Nat := z_mx (tn T) (fun l => z_pc (mLv T l))
theorem G_Tr_greatestPressure_0 {d : Nat} {a0 : Nat} {w : xWd} {Q : xMV → xWd → Prop} (h : xWp (d + 4) m_Tr_greatestPressure 4 [xA 5 a0, xI 0, xI 0] [] w Q) : xWp (d + 4) m_Tr_greatestPressure 0 [xA 5 a0, xU, xU] [] w Q := by
  refine x_goN 4 (pc' := 4) (ls' := [xA 5 a0, xI 0, xI 0]) (st' := []) (w' := w) rfl ?_
  exact h
theorem G_Tr_greatestPressure_4 {d : Nat} {a0 : Nat} {x1 : Int32} {x2 : Int32} {w : xWd} {Q : xMV → xWd → Prop} (h : ((w a0 8 ≤ x2 → Q (xI x1) w) ∧ (¬ (w a0 8 ≤ x2) → xWp (d + 3) m_Tr_pressure 0 [xA 5 a0, xI x2] [] w (fun a w' => xWp (d + 4) m_Tr_greatestPressure 18 [xA 5 a0, xI x1, xI x2] (x_pu a [xI x1]) w' Q)))) : xWp (d + 4) m_Tr_greatestPressure 4 [xA 5 a0, xI x1, xI x2] [] w Q := by
  refine x_goN 4 (pc' := if w a0 8 ≤ x2 then 28 else 12) (ls' := [xA 5 a0, xI x1, xI x2]) (st' := []) (w' := w) rfl ?_
  refine x_br (fun c1 => ?_) (fun c1 => ?_)
  · skip
    refine x_goN 1 (pc' := 29) (ls' := [xA 5 a0, xI x1, xI x2]) (st' := [xI x1]) (w' := w) rfl ?_
    exact x_ret (P := True) rfl trivial (h.1 c1)
  · skip
    refine x_goN 3 (pc' := 15) (ls' := [xA 5 a0, xI x1, xI x2]) (st' := [xI x2, xA 5 a0, xI x1]) (w' := w) rfl ?_
    refine x_call (y := m_Tr_pressure) (as := [xA 5 a0, xI x2]) (rst := [xI x1]) rfl [xA 5 a0, xI x2] rfl ?_
    exact (h.2 c1)
theorem G_Tr_greatestPressure_18 {d : Nat} {a0 : Nat} {x1 : Int32} {x2 : Int32} {s1 : Int32} {s0 : Int32} {w : xWd} {Q : xMV → xWd → Prop} (h : xWp (d + 4) m_Tr_greatestPressure 4 [xA 5 a0, xI (if s0 < s1 then s1 else s0), xI (x2 + 1)] [] w Q) : xWp (d + 4) m_Tr_greatestPressure 18 [xA 5 a0, xI x1, xI x2] [xI s1, xI s0] w Q := by
  refine x_ob (P := 1 ≤ (d + 4)) (pc' := 21) (ls' := [xA 5 a0, xI x1, xI x2]) (st' := [xI (if s0 < s1 then s1 else s0)]) (w' := w) rfl (Nat.succ_le_succ (Nat.zero_le _)) ?_
  refine x_goN 3 (pc' := 4) (ls' := [xA 5 a0, xI (if s0 < s1 then s1 else s0), xI (x2 + 1)]) (st' := []) (w' := w) rfl ?_
  exact h
theorem L_Tr_greatestPressure {d t : Nat} {T : xT} {w : xWd} {Q : xMV → xWd → Prop} (hR : tR w t T) (h : Q (xI (nI (fMx T))) w) : ∀ k l : Nat, l + k = tn T → xWp (d + 4) m_Tr_greatestPressure 4 [xA 5 t, xI (nI (z_mx l (fun l => z_pc (mLv T l)))), xI (nI l)] [] w Q := by
  have h8 := tR_n8 hR
  intro k
  induction k with
  | zero =>
    intro l hl
    have e : l = tn T := by omega
    subst e
    exact G_Tr_greatestPressure_4 ⟨fun _ => h, fun c => absurd (tR_end hR) c⟩
  | succ k ih =>
    intro l hl
    have hlt : l < tn T := by omega
    refine G_Tr_greatestPressure_4 ⟨fun c => absurd c (tR_ge hR hlt), fun c => S_Tr_pressure hR hlt ?_⟩
    refine G_Tr_greatestPressure_18 ?_
    have b1 := z_mx_le l 8 (fun l => z_pc (mLv T l)) (fun j _ => z_pc_le _)
    have b2 := z_pc_le (mLv T l)
    rw [z_max (by omega) (by omega), nI_1]
    exact ih (l + 1) (by omega)
theorem S_Tr_greatestPressure {d t : Nat} {T : xT} {w : xWd} {Q : xMV → xWd → Prop} (hR : tR w t T) (h : Q (xI (nI (fMx T))) w) : xWp (d + 4) m_Tr_greatestPressure 0 [xA 5 t, xU, xU] [] w Q :=
  G_Tr_greatestPressure_0 (L_Tr_greatestPressure hR h (tn T) 0 (Nat.zero_add _))
theorem G_Tr_crossing_0 {d : Nat} {a0 : Nat} {x1 : Int32} {w : xWd} {Q : xMV → xWd → Prop} (h : xWp (d + 3) m_Tr_crossing 4 [xA 5 a0, xI x1, xI 0, xI 0, xU] [] w Q) : xWp (d + 3) m_Tr_crossing 0 [xA 5 a0, xI x1, xU, xU, xU] [] w Q := by
  refine x_goN 4 (pc' := 4) (ls' := [xA 5 a0, xI x1, xI 0, xI 0, xU]) (st' := []) (w' := w) rfl ?_
  exact h
theorem G_Tr_crossing_4 {d : Nat} {a0 : Nat} {x1 : Int32} {x2 : Int32} {x3 : Int32} {w : xWd} {Q : xMV → xWd → Prop} (h : ((w a0 8 ≤ x3 → Q (xI x2) w) ∧ (¬ (w a0 8 ≤ x3) → xWp (d + 2) m_Tr_liveBehind 0 [xA 5 a0, xI x3] [] w (fun a w' => xWp (d + 3) m_Tr_crossing 17 [xA 5 a0, xI x1, xI x2, xI x3, xU] (x_pu a []) w' Q)))) : xWp (d + 3) m_Tr_crossing 4 [xA 5 a0, xI x1, xI x2, xI x3, xU] [] w Q := by
  refine x_goN 4 (pc' := if w a0 8 ≤ x3 then 45 else 12) (ls' := [xA 5 a0, xI x1, xI x2, xI x3, xU]) (st' := []) (w' := w) rfl ?_
  refine x_br (fun c1 => ?_) (fun c1 => ?_)
  · skip
    refine x_goN 1 (pc' := 46) (ls' := [xA 5 a0, xI x1, xI x2, xI x3, xU]) (st' := [xI x2]) (w' := w) rfl ?_
    exact x_ret (P := True) rfl trivial (h.1 c1)
  · skip
    refine x_goN 2 (pc' := 14) (ls' := [xA 5 a0, xI x1, xI x2, xI x3, xU]) (st' := [xI x3, xA 5 a0]) (w' := w) rfl ?_
    refine x_call (y := m_Tr_liveBehind) (as := [xA 5 a0, xI x3]) (rst := []) rfl [xA 5 a0, xI x3] rfl ?_
    exact (h.2 c1)
theorem G_Tr_crossing_17 {d : Nat} {a0 : Nat} {x1 : Int32} {x2 : Int32} {x3 : Int32} {s0 : Int32} {w : xWd} {Q : xMV → xWd → Prop} (h : ((p_in s0 x1 → xWp (d + 3) m_Tr_crossing 4 [xA 5 a0, xI x1, xI (x2 ||| (s0 &&& (((1 : Int32) <<< (x1 &&& 31)) ^^^ (-1)))), xI (x3 + 1), xU] [] w Q) ∧ (¬ (p_in s0 x1) → xWp (d + 3) m_Tr_crossing 4 [xA 5 a0, xI x1, xI x2, xI (x3 + 1), xU] [] w Q))) : xWp (d + 3) m_Tr_crossing 17 [xA 5 a0, xI x1, xI x2, xI x3, xU] [xI s0] w Q := by
  refine x_goN 3 (pc' := 22) (ls' := [xA 5 a0, xI x1, xI x2, xI x3, xI s0]) (st' := [xI x1, xI s0]) (w' := w) rfl ?_
  refine x_call (y := m_Vp_inSet) (as := [xI s0, xI x1]) (rst := []) rfl [xI s0, xI x1] rfl ?_
  refine S_Vp_inSet (fun c1 => ?_) (fun c1 => ?_)
  · skip
    refine x_goN 1 (pc' := if (1 : Int32) = (0 : Int32) then 39 else 28) (ls' := [xA 5 a0, xI x1, xI x2, xI x3, xI s0]) (st' := []) (w' := w) rfl ?_
    refine x_brF (by decide) ?_
    refine x_goN 12 (pc' := 4) (ls' := [xA 5 a0, xI x1, xI (x2 ||| (s0 &&& (((1 : Int32) <<< (x1 &&& 31)) ^^^ (-1)))), xI (x3 + 1), xI s0]) (st' := []) (w' := w) rfl ?_
    exact x_weak ((h.1 c1)) ⟨Or.inl rfl, Or.inl rfl, Or.inl rfl, Or.inl rfl, Or.inr ⟨rfl, rfl⟩, trivial⟩
  · skip
    refine x_goN 1 (pc' := if (0 : Int32) = (0 : Int32) then 39 else 28) (ls' := [xA 5 a0, xI x1, xI x2, xI x3, xI s0]) (st' := []) (w' := w) rfl ?_
    refine x_brT (by decide) ?_
    refine x_goN 2 (pc' := 4) (ls' := [xA 5 a0, xI x1, xI x2, xI (x3 + 1), xI s0]) (st' := []) (w' := w) rfl ?_
    exact x_weak ((h.2 c1)) ⟨Or.inl rfl, Or.inl rfl, Or.inl rfl, Or.inl rfl, Or.inr ⟨rfl, rfl⟩, trivial⟩
def mCrn (T : xT) (v m : Nat) : Nat := z_mk 8 (fun u => decide (u ≠ v) && z_any m (fun l => (mLv T l).testBit v && (mLv T l).testBit u))
theorem mCrn_s {T : xT} {v m : Nat} (hv : v < 8) (h : (mLv T m).testBit v = true) : nI (mCrn T v m) ||| nI (z_cl (mLv T m) v) = nI (mCrn T v (m + 1)) := by
  rw [fa_or]
  congr 1
  have b1 : mCrn T v m < 256 := z_mk_lt8 (Nat.le_refl _) _
  have b2 : mCrn T v (m + 1) < 256 := z_mk_lt8 (Nat.le_refl _) _
  have b3 := z_cl_lt (mLv T m) (mLv_lt T m) v hv
  apply z_ext (Nat.or_lt_two_pow (n := 8) b1 b3) b2
  intro j hj
  unfold mCrn
  rw [Nat.testBit_or, z_mk_tb, z_mk_tb, z_cl_tb _ (mLv_lt T m) v hv j hj, decide_eq_true hj, Bool.true_and, Bool.true_and]
  show _ = (decide (j ≠ v) && (z_any m _ || ((mLv T m).testBit v && (mLv T m).testBit j)))
  rw [h, Bool.true_and]
  cases decide (j ≠ v) <;> cases (mLv T m).testBit j <;> cases z_any m (fun l => (mLv T l).testBit v && (mLv T l).testBit j) <;> rfl
theorem mCrn_n {T : xT} {v m : Nat} (h : ¬ (mLv T m).testBit v = true) : mCrn T v m = mCrn T v (m + 1) := by
  unfold mCrn
  apply z_mk_congr
  intro j _
  show _ = (decide (j ≠ v) && (z_any m _ || ((mLv T m).testBit v && (mLv T m).testBit j)))
  rw [Bool.eq_false_iff.mpr h, Bool.false_and, Bool.or_false]
theorem L_Tr_crossing {d t v : Nat} {T : xT} {w : xWd} {Q : xMV → xWd → Prop} (hR : tR w t T) (hv : v < 8) (h : Q (xI (nI (mCr T v))) w) : ∀ k m : Nat, m + k = tn T → xWp (d + 3) m_Tr_crossing 4 [xA 5 t, xI (nI v), xI (nI (mCrn T v m)), xI (nI m), xU] [] w Q := by
  have h8 := tR_n8 hR
  intro k
  induction k with
  | zero =>
    intro m hm
    have e : m = tn T := by omega
    subst e
    exact G_Tr_crossing_4 ⟨fun _ => h, fun c => absurd (tR_end hR) c⟩
  | succ k ih =>
    intro m hm
    have hlt : m < tn T := by omega
    refine G_Tr_crossing_4 ⟨fun c => absurd c (tR_ge hR hlt), fun c => S_Tr_liveBehind hR hlt ?_⟩
    refine G_Tr_crossing_17 ⟨fun c1 => ?_, fun c1 => ?_⟩
    · have hp := (z_bit' (mLv_lt T m) hv).mp c1
      rw [z_shl v (by omega), z_clr _ (mLv_lt T m) v hv, mCrn_s hv hp, nI_1]
      exact ih (m + 1) (by omega)
    · have hp := fun q => c1 ((z_bit' (mLv_lt T m) hv).mpr q)
      rw [mCrn_n hp, nI_1]
      exact ih (m + 1) (by omega)
theorem S_Tr_crossing {d t v : Nat} {T : xT} {w : xWd} {Q : xMV → xWd → Prop} (hR : tR w t T) (hv : v < 8) (h : Q (xI (nI (mCr T v))) w) : xWp (d + 3) m_Tr_crossing 0 [xA 5 t, xI (nI v), xU, xU, xU] [] w Q := by
  have := L_Tr_crossing (d := d) hR hv h (tn T) 0 (Nat.zero_add _)
  rw [show mCrn T v 0 = 0 from (z_mk_congr 8 (q := fun _ => false) (fun j _ => Bool.and_false _)).trans (z_mk_0 8)] at this
  exact G_Tr_crossing_0 this
theorem G_Tr_howManyCross_0 {d : Nat} {a0 : Nat} {w : xWd} {Q : xMV → xWd → Prop} (h : xWp (d + 4) m_Tr_howManyCross 4 [xA 5 a0, xI 0, xI 0] [] w Q) : xWp (d + 4) m_Tr_howManyCross 0 [xA 5 a0, xU, xU] [] w Q := by
  refine x_goN 4 (pc' := 4) (ls' := [xA 5 a0, xI 0, xI 0]) (st' := []) (w' := w) rfl ?_
  exact h
theorem G_Tr_howManyCross_4 {d : Nat} {a0 : Nat} {x1 : Int32} {x2 : Int32} {w : xWd} {Q : xMV → xWd → Prop} (h : ((w a0 8 ≤ x2 → Q (xI (x1 / 2)) w) ∧ (¬ (w a0 8 ≤ x2) → xWp (d + 3) m_Tr_crossing 0 [xA 5 a0, xI x2, xU, xU, xU] [] w (fun a w' => xWp (d + 4) m_Tr_howManyCross 18 [xA 5 a0, xI x1, xI x2] (x_pu a [xI x1]) w' Q)))) : xWp (d + 4) m_Tr_howManyCross 4 [xA 5 a0, xI x1, xI x2] [] w Q := by
  refine x_goN 4 (pc' := if w a0 8 ≤ x2 then 29 else 12) (ls' := [xA 5 a0, xI x1, xI x2]) (st' := []) (w' := w) rfl ?_
  refine x_br (fun c1 => ?_) (fun c1 => ?_)
  · skip
    refine x_goN 2 (pc' := 31) (ls' := [xA 5 a0, xI x1, xI x2]) (st' := [xI 2, xI x1]) (w' := w) rfl ?_
    refine x_ob (P := ¬ (2 : Int32) = 0) (pc' := 32) (ls' := [xA 5 a0, xI x1, xI x2]) (st' := [xI (x1 / 2)]) (w' := w) rfl (by decide) ?_
    exact x_ret (P := True) rfl trivial (h.1 c1)
  · skip
    refine x_goN 3 (pc' := 15) (ls' := [xA 5 a0, xI x1, xI x2]) (st' := [xI x2, xA 5 a0, xI x1]) (w' := w) rfl ?_
    refine x_call (y := m_Tr_crossing) (as := [xA 5 a0, xI x2]) (rst := [xI x1]) rfl [xA 5 a0, xI x2, xU, xU, xU] rfl ?_
    exact (h.2 c1)
theorem G_Tr_howManyCross_18 {d : Nat} {a0 : Nat} {x1 : Int32} {x2 : Int32} {s1 : Int32} {s0 : Int32} {w : xWd} {Q : xMV → xWd → Prop} (h : xWp (d + 3) m_Jn_bitCount 0 [xI s1] [] w (fun a w' => xWp (d + 4) m_Tr_howManyCross 21 [xA 5 a0, xI x1, xI x2] (x_pu a [xI s0]) w' Q)) : xWp (d + 4) m_Tr_howManyCross 18 [xA 5 a0, xI x1, xI x2] [xI s1, xI s0] w Q := by
  refine x_call (y := m_Jn_bitCount) (as := [xI s1]) (rst := [xI s0]) rfl [xI s1] rfl ?_
  exact h
theorem G_Tr_howManyCross_21 {d : Nat} {a0 : Nat} {x1 : Int32} {x2 : Int32} {s1 : Int32} {s0 : Int32} {w : xWd} {Q : xMV → xWd → Prop} (h : xWp (d + 4) m_Tr_howManyCross 4 [xA 5 a0, xI (s0 + s1), xI (x2 + 1)] [] w Q) : xWp (d + 4) m_Tr_howManyCross 21 [xA 5 a0, xI x1, xI x2] [xI s1, xI s0] w Q := by
  refine x_goN 4 (pc' := 4) (ls' := [xA 5 a0, xI (s0 + s1), xI (x2 + 1)]) (st' := []) (w' := w) rfl ?_
  exact h
def nCr (T : xT) : Nat := z_sm (tn T) (fun v => z_pc (mCr T v)) / 2
theorem L_Tr_howManyCross {d t : Nat} {T : xT} {w : xWd} {Q : xMV → xWd → Prop} (hR : tR w t T) (h : Q (xI (nI (nCr T))) w) : ∀ k v : Nat, v + k = tn T → xWp (d + 4) m_Tr_howManyCross 4 [xA 5 t, xI (nI (z_sm v (fun v => z_pc (mCr T v)))), xI (nI v)] [] w Q := by
  have h8 := tR_n8 hR
  intro k
  induction k with
  | zero =>
    intro v hv
    have e : v = tn T := by omega
    subst e
    have b := z_sm_le (tn T) 8 (fun v => z_pc (mCr T v)) (fun j _ => z_pc_le _)
    refine G_Tr_howManyCross_4 ⟨fun _ => ?_, fun c => absurd (tR_end hR) c⟩
    rw [show nI (z_sm (tn T) (fun v => z_pc (mCr T v))) / 2 = nI (nCr T) from pk_div (d := 2) (by omega) (by decide) (by decide)]
    exact h
  | succ k ih =>
    intro v hv
    have hlt : v < tn T := by omega
    refine G_Tr_howManyCross_4 ⟨fun c => absurd c (tR_ge hR hlt), fun c => S_Tr_crossing hR (by omega) ?_⟩
    refine G_Tr_howManyCross_18 (S_Jn_bitCount ?_)
    refine G_Tr_howManyCross_21 ?_
    rw [v_bc_ok _ (mCr_lt T v), nI_add, nI_1]
    exact ih (v + 1) (by omega)
theorem S_Tr_howManyCross {d t : Nat} {T : xT} {w : xWd} {Q : xMV → xWd → Prop} (hR : tR w t T) (h : Q (xI (nI (nCr T))) w) : xWp (d + 4) m_Tr_howManyCross 0 [xA 5 t, xU, xU] [] w Q :=
  G_Tr_howManyCross_0 (L_Tr_howManyCross hR h (tn T) 0 (Nat.zero_add _))
/-! colours -/
def tTk (T : xT) (l : Nat) (c : Nat → Nat) (m : Nat) : Nat := z_mk 8 (fun q => z_any m (fun v => (mLv T l).testBit v && decide (c v = q)))
def t_cl (T : xT) : Nat → Nat → Nat
  | 0, _ => 0
  | k + 1, j => if j = k then z_lz (tTk T k (t_cl T k) k) else t_cl T k j
/-- the colour of line l -/
def tCl (T : xT) (l : Nat) : Nat := t_cl T (l + 1) l
theorem t_cl_lt {T : xT} : ∀ (k j : Nat), j < k → t_cl T k j = tCl T j
  | 0, j, h => absurd h (Nat.not_lt_zero _)
  | k + 1, j, h => by
    by_cases e : j = k
    · subst e; rfl
    · show (if j = k then _ else t_cl T k j) = _
      rw [if_neg e]
      exact t_cl_lt k j (by omega)
theorem z_any_congr : ∀ (k : Nat) {p q : Nat → Bool}, (∀ j, j < k → p j = q j) → z_any k p = z_any k q
  | 0, _, _, _ => rfl
  | k + 1, p, q, h => by
    show (z_any k p || p k) = (z_any k q || q k)
    rw [h k (by omega), z_any_congr k (fun j hj => h j (by omega))]
theorem tTk_congr {T : xT} {l m : Nat} {c c' : Nat → Nat} (h : ∀ v, v < m → c v = c' v) : tTk T l c m = tTk T l c' m := by
  unfold tTk
  exact z_mk_congr 8 (fun q _ => z_any_congr m (fun v hv => by rw [h v hv]))
theorem tCl_eq (T : xT) (l : Nat) : tCl T l = z_lz (tTk T l (tCl T) l) := by
  show (if l = l then z_lz (tTk T l (t_cl T l) l) else _) = _
  rw [if_pos rfl, tTk_congr (c' := tCl T) (fun v hv => t_cl_lt l v hv)]
theorem z_lz_le : ∀ m, m < 256 → ∀ k, k < 8 → m.testBit k = false → z_lz m ≤ k := by decide +kernel
theorem tTk_lt (T : xT) (l m : Nat) (c : Nat → Nat) : tTk T l c m < 256 := z_mk_lt8 (Nat.le_refl _) _
theorem tCl_le {T : xT} : ∀ (f l : Nat), l ≤ f → l < 8 → tCl T l ≤ l
  | f, l, hf, h8 => by
    rw [tCl_eq]
    apply z_lz_le _ (tTk_lt _ _ _ _) l h8
    unfold tTk
    rw [z_mk_tb, Bool.and_eq_false_iff]
    right
    apply Bool.eq_false_iff.mpr
    intro hq
    obtain ⟨v, hv, hh⟩ := (z_any_iff _ _).mp hq
    rw [Bool.and_eq_true] at hh
    have e := of_decide_eq_true hh.2
    cases f with
    | zero => omega
    | succ f =>
      have := tCl_le (T := T) f v (by omega) (by omega)
      omega
theorem tCl_lt {T : xT} {l : Nat} (h : l < 8) : tCl T l < 8 := by
  have := tCl_le (T := T) l l (Nat.le_refl _) h
  omega
theorem tTk_s {T : xT} {l m : Nat} (hm : m < 8) (h : (mLv T l).testBit m = true) : nI (tTk T l (tCl T) m) ||| nI (2 ^ tCl T m) = nI (tTk T l (tCl T) (m + 1)) := by
  rw [fa_or]
  congr 1
  apply Nat.eq_of_testBit_eq
  intro i
  unfold tTk
  have hc := tCl_lt (T := T) hm
  rw [Nat.testBit_or, z_mk_tb, z_mk_tb, Nat.testBit_two_pow]
  show _ = (decide (i < 8) && (z_any m _ || ((mLv T l).testBit m && decide (tCl T m = i))))
  rw [h, Bool.true_and]
  by_cases hi : i < 8
  · rw [decide_eq_true hi, Bool.true_and, Bool.true_and]
  · rw [decide_eq_false hi, Bool.false_and, Bool.false_and, Bool.false_or]
    exact decide_eq_false (by omega)
theorem tTk_n {T : xT} {l m : Nat} (h : ¬ (mLv T l).testBit m = true) : tTk T l (tCl T) m = tTk T l (tCl T) (m + 1) := by
  unfold tTk
  apply z_mk_congr
  intro j _
  show _ = (z_any m _ || ((mLv T l).testBit m && _))
  rw [Bool.eq_false_iff.mpr h, Bool.false_and, Bool.or_false]
/-- the tree is told by its cells alone -/
theorem tR_fr {w w' : xWd} {t : Nat} {T : xT} (h : tR w t T) (he : w' t = w t) (ha : ∀ i, i < 7 → w' (32 * t + (i + 1)) = w (32 * t + (i + 1))) : tR w' t T := by
  refine ⟨⟨by rw [he]; exact h.1.1, fun l hl => ?_⟩, h.2⟩
  have e1 : w' (32 * t + 1) = _ := ha 0 (by decide)
  have e2 : w' (32 * t + 2) = _ := ha 1 (by decide)
  have e3 : w' (32 * t + 3) = _ := ha 2 (by decide)
  have e4 : w' (32 * t + 4) = _ := ha 3 (by decide)
  have e5 : w' (32 * t + 5) = _ := ha 4 (by decide)
  have e6 : w' (32 * t + 6) = _ := ha 5 (by decide)
  have e7 : w' (32 * t + 7) = _ := ha 6 (by decide)
  rw [e1, e2, e3, e4, e5, e6, e7]
  exact h.1.2 l hl
theorem x_set_o {w : xWd} {a b j : Nat} {v : Int32} (h : b ≠ a) : (x_set w a j v) b = w b := if_neg h
theorem x_set_s {w : xWd} {a j : Nat} {v : Int32} : (x_set w a j v) a = upd (w a) j v := if_pos rfl
theorem x_put_o {w : xWd} {a b : Nat} {f : Nat → Int32} (h : b ≠ a) : (x_put w a f) b = w b := if_neg h
theorem upd_s {f : Nat → Int32} {k : Nat} {v : Int32} : upd f k v k = v := if_pos rfl
theorem upd_o {f : Nat → Int32} {k j : Nat} {v : Int32} (h : j ≠ k) : upd f k v j = f j := if_neg h
theorem G_Tr_giveColours_0 {d : Nat} {a0 : Nat} {w : xWd} {Q : xMV → xWd → Prop} (h : xWp (d + 3) m_Tr_giveColours 2 [xA 5 a0, xI 0, xU, xU, xU] [] w Q) : xWp (d + 3) m_Tr_giveColours 0 [xA 5 a0, xU, xU, xU, xU] [] w Q := by
  refine x_goN 2 (pc' := 2) (ls' := [xA 5 a0, xI 0, xU, xU, xU]) (st' := []) (w' := w) rfl ?_
  exact h
theorem G_Tr_giveColours_2 {d : Nat} {a0 : Nat} {x1 : Int32} {w : xWd} {Q : xMV → xWd → Prop} (h : ((w a0 8 ≤ x1 → Q xU w) ∧ (¬ (w a0 8 ≤ x1) → xWp (d + 2) m_Tr_liveBehind 0 [xA 5 a0, xI x1] [] w (fun a w' => xWp (d + 3) m_Tr_giveColours 17 [xA 5 a0, xI x1, xI 0, xU, xU] (x_pu a []) w' Q)))) : xWp (d + 3) m_Tr_giveColours 2 [xA 5 a0, xI x1, xU, xU, xU] [] w Q := by
  refine x_goN 4 (pc' := if w a0 8 ≤ x1 then 72 else 10) (ls' := [xA 5 a0, xI x1, xU, xU, xU]) (st' := []) (w' := w) rfl ?_
  refine x_br (fun c1 => ?_) (fun c1 => ?_)
  · skip
    exact x_ret (P := True) rfl trivial (h.1 c1)
  · skip
    refine x_goN 4 (pc' := 14) (ls' := [xA 5 a0, xI x1, xI 0, xU, xU]) (st' := [xI x1, xA 5 a0]) (w' := w) rfl ?_
    refine x_call (y := m_Tr_liveBehind) (as := [xA 5 a0, xI x1]) (rst := []) rfl [xA 5 a0, xI x1] rfl ?_
    exact (h.2 c1)
theorem G_Tr_giveColours_17 {d : Nat} {a0 : Nat} {x1 : Int32} {x2 : Int32} {s0 : Int32} {w : xWd} {Q : xMV → xWd → Prop} (h : xWp (d + 3) m_Tr_giveColours 21 [xA 5 a0, xI x1, xI x2, xI s0, xI 0] [] w Q) : xWp (d + 3) m_Tr_giveColours 17 [xA 5 a0, xI x1, xI x2, xU, xU] [xI s0] w Q := by
  refine x_goN 3 (pc' := 21) (ls' := [xA 5 a0, xI x1, xI x2, xI s0, xI 0]) (st' := []) (w' := w) rfl ?_
  exact h
theorem G_Tr_giveColours_21 {d : Nat} {a0 : Nat} {x1 : Int32} {x2 : Int32} {x3 : Int32} {x4 : Int32} {w : xWd} {Q : xMV → xWd → Prop} (h : ((x1 ≤ x4 → xWp (d + 2) m_Jn_numberOfTrailingZeros 0 [xI (x2 ^^^ (-1)), xU] [] w (fun a w' => xWp (d + 3) m_Tr_giveColours 65 [xA 5 a0, xI x1, xI x2, xI x3, xI x4] (x_pu a [xI x1, xA 108 (32 * a0 + 8)]) w' Q)) ∧ (¬ (x1 ≤ x4) → ((p_in x3 x4 → (vp_in x4 8 ∧ xWp (d + 3) m_Tr_giveColours 21 [xA 5 a0, xI x1, xI (x2 ||| ((1 : Int32) <<< ((w (32 * a0 + 8) x4.toNatClampNeg) &&& 31))), xI x3, xI (x4 + 1)] [] w Q)) ∧ (¬ (p_in x3 x4) → xWp (d + 3) m_Tr_giveColours 21 [xA 5 a0, xI x1, xI x2, xI x3, xI (x4 + 1)] [] w Q))))) : xWp (d + 3) m_Tr_giveColours 21 [xA 5 a0, xI x1, xI x2, xI x3, xI x4] [] w Q := by
  refine x_goN 3 (pc' := if x1 ≤ x4 then 54 else 27) (ls' := [xA 5 a0, xI x1, xI x2, xI x3, xI x4]) (st' := []) (w' := w) rfl ?_
  refine x_br (fun c1 => ?_) (fun c1 => ?_)
  · skip
    refine x_goN 6 (pc' := 62) (ls' := [xA 5 a0, xI x1, xI x2, xI x3, xI x4]) (st' := [xI (x2 ^^^ (-1)), xI x1, xA 108 (32 * a0 + 8)]) (w' := w) rfl ?_
    refine x_call (y := m_Jn_numberOfTrailingZeros) (as := [xI (x2 ^^^ (-1))]) (rst := [xI x1, xA 108 (32 * a0 + 8)]) rfl [xI (x2 ^^^ (-1)), xU] rfl ?_
    exact (h.1 c1)
  · skip
    refine x_goN 2 (pc' := 30) (ls' := [xA 5 a0, xI x1, xI x2, xI x3, xI x4]) (st' := [xI x4, xI x3]) (w' := w) rfl ?_
    refine x_call (y := m_Vp_inSet) (as := [xI x3, xI x4]) (rst := []) rfl [xI x3, xI x4] rfl ?_
    refine S_Vp_inSet (fun c2 => ?_) (fun c2 => ?_)
    · skip
      refine x_goN 1 (pc' := if (1 : Int32) = (0 : Int32) then 48 else 36) (ls' := [xA 5 a0, xI x1, xI x2, xI x3, xI x4]) (st' := []) (w' := w) rfl ?_
      refine x_brF (by decide) ?_
      refine x_goN 5 (pc' := 44) (ls' := [xA 5 a0, xI x1, xI x2, xI x3, xI x4]) (st' := [xI x4, xA 108 (32 * a0 + 8), xI 1, xI x2]) (w' := w) rfl ?_
      refine x_ob (P := vp_in x4 8) (pc' := 45) (ls' := [xA 5 a0, xI x1, xI x2, xI x3, xI x4]) (st' := [xI (w (32 * a0 + 8) x4.toNatClampNeg), xI 1, xI x2]) (w' := w) rfl ((h.2 c1).1 c2).1 ?_
      refine x_goN 5 (pc' := 21) (ls' := [xA 5 a0, xI x1, xI (x2 ||| ((1 : Int32) <<< ((w (32 * a0 + 8) x4.toNatClampNeg) &&& 31))), xI x3, xI (x4 + 1)]) (st' := []) (w' := w) rfl ?_
      exact ((h.2 c1).1 c2).2
    · skip
      refine x_goN 1 (pc' := if (0 : Int32) = (0 : Int32) then 48 else 36) (ls' := [xA 5 a0, xI x1, xI x2, xI x3, xI x4]) (st' := []) (w' := w) rfl ?_
      refine x_brT (by decide) ?_
      refine x_goN 2 (pc' := 21) (ls' := [xA 5 a0, xI x1, xI x2, xI x3, xI (x4 + 1)]) (st' := []) (w' := w) rfl ?_
      exact ((h.2 c1).2 c2)
theorem G_Tr_giveColours_65 {d : Nat} {a0 : Nat} {x1 : Int32} {x2 : Int32} {x3 : Int32} {x4 : Int32} {s2 : Int32} {s1 : Int32} {b0 : Nat} {w : xWd} {Q : xMV → xWd → Prop} (h : (vp_in s1 8 ∧ ∀ w1 : xWd, w1 = x_set w b0 s1.toNatClampNeg s2 → xWp (d + 3) m_Tr_giveColours 2 [xA 5 a0, xI (x1 + 1), xU, xU, xU] [] w1 Q)) : xWp (d + 3) m_Tr_giveColours 65 [xA 5 a0, xI x1, xI x2, xI x3, xI x4] [xI s2, xI s1, xA 108 b0] w Q := by
  refine x_obW (P := vp_in s1 8) (pc' := 66) (ls' := [xA 5 a0, xI x1, xI x2, xI x3, xI x4]) (st' := []) (w' := x_set w b0 s1.toNatClampNeg s2) rfl h.1 (fun w1 ew1 => ?_)
  refine x_goN 2 (pc' := 2) (ls' := [xA 5 a0, xI (x1 + 1), xI x2, xI x3, xI x4]) (st' := []) (w' := w1) rfl ?_
  exact x_weak ((h.2 w1 ew1)) ⟨Or.inl rfl, Or.inl rfl, Or.inr ⟨rfl, rfl⟩, Or.inr ⟨rfl, rfl⟩, Or.inr ⟨rfl, rfl⟩, trivial⟩
/-- what the colours change: one row, told by tCl -/
def cG (t : Nat) (T : xT) (w w' : xWd) (k : Nat) : Prop := (∀ a, a ≠ 32 * t + 8 → w' a = w a) ∧ ∀ l, l < k → w' (32 * t + 8) l = nI (tCl T l)
theorem cG_R {t k : Nat} {T : xT} {w w' : xWd} (hR : tR w t T) (h : cG t T w w' k) : tR w' t T := tR_fr hR (h.1 _ (by omega)) (fun i hi => h.1 _ (by omega))
theorem L_Tr_giveColours_in {d t l : Nat} {T : xT} {w : xWd} {Q : xMV → xWd → Prop} (hl8 : l < 8) (hc : ∀ v, v < l → w (32 * t + 8) v = nI (tCl T v))
    (h : xWp (d + 3) m_Tr_giveColours 21 [xA 5 t, xI (nI l), xI (nI (tTk T l (tCl T) l)), xI (nI (mLv T l)), xI (nI l)] [] w Q) : ∀ k v : Nat, v + k = l → xWp (d + 3) m_Tr_giveColours 21 [xA 5 t, xI (nI l), xI (nI (tTk T l (tCl T) v)), xI (nI (mLv T l)), xI (nI v)] [] w Q := by
  intro k
  induction k with
  | zero =>
    intro v hv
    have e : v = l := by omega
    subst e
    exact h
  | succ k ih =>
    intro v hv
    refine G_Tr_giveColours_21 ⟨fun c => absurd ((z_le (by omega) (by omega)).mp c) (by omega), fun c => ⟨fun c1 => ⟨z_in (by omega) (by decide), ?_⟩, fun c1 => ?_⟩⟩
    · have hp := (z_bit' (mLv_lt T l) (by omega)).mp c1
      have hlt := tCl_lt (T := T) (show v < 8 by omega)
      rw [z_cl' (by omega), hc v (by omega), z_shl _ (by omega), tTk_s (by omega) hp, nI_1]
      exact ih (v + 1) (by omega)
    · have hp := fun q => c1 ((z_bit' (mLv_lt T l) (by omega)).mpr q)
      rw [tTk_n hp, nI_1]
      exact ih (v + 1) (by omega)
theorem L_Tr_giveColours {d t : Nat} {T : xT} {w0 : xWd} {Q : xMV → xWd → Prop} (hR : tR w0 t T) (h : ∀ w, cG t T w0 w (tn T) → Q xU w) : ∀ (k l : Nat) (w : xWd), l + k = tn T → cG t T w0 w l → xWp (d + 3) m_Tr_giveColours 2 [xA 5 t, xI (nI l), xU, xU, xU] [] w Q := by
  have h8 := tR_n8 hR
  intro k
  induction k with
  | zero =>
    intro l w hl hg
    have e : l = tn T := by omega
    subst e
    exact G_Tr_giveColours_2 ⟨fun _ => h w hg, fun c => absurd (tR_end (cG_R hR hg)) c⟩
  | succ k ih =>
    intro l w hl hg
    have hlt : l < tn T := by omega
    have hR' := cG_R hR hg
    refine G_Tr_giveColours_2 ⟨fun c => absurd c (tR_ge hR' hlt), fun c => S_Tr_liveBehind hR' hlt ?_⟩
    refine G_Tr_giveColours_17 ?_
    have e0 : tTk T l (tCl T) 0 = 0 := by unfold tTk; exact z_mk_0 8
    have key := L_Tr_giveColours_in (d := d) (t := t) (T := T) (w := w) (Q := Q) (show l < 8 by omega) hg.2 ?_ l 0 (Nat.zero_add _)
    · rw [e0] at key; exact key
    · refine G_Tr_giveColours_21 ⟨fun _ => ?_, fun c => absurd ((z_le (by omega) (by omega)).mpr (Nat.le_refl l)) c⟩
      obtain ⟨z1, z2⟩ := z_lz_ok _ (tTk_lt T l l (tCl T))
      refine S_tz z2 z1 ?_
      refine G_Tr_giveColours_65 ⟨z_in (by omega) (by decide), fun w1 ew1 => ?_⟩
      rw [nI_1]
      refine ih (l + 1) w1 (by omega) ?_
      subst ew1
      refine ⟨fun a ha => by rw [x_set_o ha]; exact hg.1 a ha, fun j hj => ?_⟩
      rw [x_set_s, z_cl' (by omega)]
      by_cases e : j = l
      · subst e; rw [upd_s, ← tCl_eq]
      · rw [upd_o e]; exact hg.2 j (by omega)
theorem S_Tr_giveColours {d t : Nat} {T : xT} {w : xWd} {Q : xMV → xWd → Prop} (hR : tR w t T) (h : ∀ w', cG t T w w' (tn T) → Q xU w') : xWp (d + 3) m_Tr_giveColours 0 [xA 5 t, xU, xU, xU, xU] [] w Q :=
  G_Tr_giveColours_0 (L_Tr_giveColours hR h (tn T) 0 w (Nat.zero_add _) ⟨fun _ _ => rfl, fun _ q => absurd q (Nat.not_lt_zero _)⟩)
theorem G_Tr_colourOf_0 {d : Nat} {a0 : Nat} {x1 : Int32} {w : xWd} {Q : xMV → xWd → Prop} (h : xWp (d + 3) m_Tr_giveColours 0 [xA 5 a0, xU, xU, xU, xU] [] w (fun a w' => xWp (d + 4) m_Tr_colourOf 4 [xA 5 a0, xI x1] (x_pu a []) w' Q)) : xWp (d + 4) m_Tr_colourOf 0 [xA 5 a0, xI x1] [] w Q := by
  refine x_goN 1 (pc' := 1) (ls' := [xA 5 a0, xI x1]) (st' := [xA 5 a0]) (w' := w) rfl ?_
  refine x_call (y := m_Tr_giveColours) (as := [xA 5 a0]) (rst := []) rfl [xA 5 a0, xU, xU, xU, xU] rfl ?_
  exact h
theorem G_Tr_colourOf_4 {d : Nat} {a0 : Nat} {x1 : Int32} {w : xWd} {Q : xMV → xWd → Prop} (h : ((p_lt x1 (w a0 8) → (vp_in x1 8 ∧ Q (xI (w (32 * a0 + 8) x1.toNatClampNeg)) w)) ∧ (¬ (p_lt x1 (w a0 8)) → Q (xI (-9)) w))) : xWp (d + 4) m_Tr_colourOf 4 [xA 5 a0, xI x1] [] w Q := by
  refine x_goN 2 (pc' := 6) (ls' := [xA 5 a0, xI x1]) (st' := [xI x1, xA 5 a0]) (w' := w) rfl ?_
  refine x_call (y := m_Tr_isLine) (as := [xA 5 a0, xI x1]) (rst := []) rfl [xA 5 a0, xI x1] rfl ?_
  refine S_Tr_isLine (fun c1 => ?_) (fun c1 => ?_)
  · skip
    refine x_goN 1 (pc' := if (1 : Int32) = (0 : Int32) then 21 else 12) (ls' := [xA 5 a0, xI x1]) (st' := []) (w' := w) rfl ?_
    refine x_brF (by decide) ?_
    refine x_goN 3 (pc' := 17) (ls' := [xA 5 a0, xI x1]) (st' := [xI x1, xA 108 (32 * a0 + 8)]) (w' := w) rfl ?_
    refine x_ob (P := vp_in x1 8) (pc' := 18) (ls' := [xA 5 a0, xI x1]) (st' := [xI (w (32 * a0 + 8) x1.toNatClampNeg)]) (w' := w) rfl (h.1 c1).1 ?_
    refine x_goN 1 (pc' := 23) (ls' := [xA 5 a0, xI x1]) (st' := [xI (w (32 * a0 + 8) x1.toNatClampNeg)]) (w' := w) rfl ?_
    exact x_ret (P := True) rfl trivial (h.1 c1).2
  · skip
    refine x_goN 1 (pc' := if (0 : Int32) = (0 : Int32) then 21 else 12) (ls' := [xA 5 a0, xI x1]) (st' := []) (w' := w) rfl ?_
    refine x_brT (by decide) ?_
    refine x_goN 1 (pc' := 23) (ls' := [xA 5 a0, xI x1]) (st' := [xI (-9)]) (w' := w) rfl ?_
    exact x_ret (P := True) rfl trivial (h.2 c1)
theorem S_Tr_colourOf {d t l : Nat} {T : xT} {w : xWd} {Q : xMV → xWd → Prop} (hR : tR w t T) (hl : l < tn T) (h : ∀ w', cG t T w w' (tn T) → Q (xI (nI (tCl T l))) w') : xWp (d + 4) m_Tr_colourOf 0 [xA 5 t, xI (nI l)] [] w Q := by
  have h8 := tR_n8 hR
  refine G_Tr_colourOf_0 (S_Tr_giveColours hR (fun w' hg => ?_))
  refine G_Tr_colourOf_4 ⟨fun _ => ⟨z_in (by omega) (by decide), ?_⟩, fun c => absurd (tR_lt (cG_R hR hg) hl) c⟩
  rw [z_cl' (by omega), hg.2 l hl]
  exact h w' hg
theorem G_Tr_howManyColours_0 {d : Nat} {a0 : Nat} {w : xWd} {Q : xMV → xWd → Prop} (h : xWp (d + 3) m_Tr_giveColours 0 [xA 5 a0, xU, xU, xU, xU] [] w (fun a w' => xWp (d + 4) m_Tr_howManyColours 4 [xA 5 a0, xU, xU] (x_pu a []) w' Q)) : xWp (d + 4) m_Tr_howManyColours 0 [xA 5 a0, xU, xU] [] w Q := by
  refine x_goN 1 (pc' := 1) (ls' := [xA 5 a0, xU, xU]) (st' := [xA 5 a0]) (w' := w) rfl ?_
  refine x_call (y := m_Tr_giveColours) (as := [xA 5 a0]) (rst := []) rfl [xA 5 a0, xU, xU, xU, xU] rfl ?_
  exact h
theorem G_Tr_howManyColours_4 {d : Nat} {a0 : Nat} {w : xWd} {Q : xMV → xWd → Prop} (h : xWp (d + 4) m_Tr_howManyColours 8 [xA 5 a0, xI 0, xI 0] [] w Q) : xWp (d + 4) m_Tr_howManyColours 4 [xA 5 a0, xU, xU] [] w Q := by
  refine x_goN 4 (pc' := 8) (ls' := [xA 5 a0, xI 0, xI 0]) (st' := []) (w' := w) rfl ?_
  exact h
theorem G_Tr_howManyColours_8 {d : Nat} {a0 : Nat} {x1 : Int32} {x2 : Int32} {w : xWd} {Q : xMV → xWd → Prop} (h : ((w a0 8 ≤ x2 → Q (xI x1) w) ∧ (¬ (w a0 8 ≤ x2) → (vp_in x2 8 ∧ xWp (d + 4) m_Tr_howManyColours 8 [xA 5 a0, xI (if x1 < (w (32 * a0 + 8) x2.toNatClampNeg) + 1 then (w (32 * a0 + 8) x2.toNatClampNeg) + 1 else x1), xI (x2 + 1)] [] w Q)))) : xWp (d + 4) m_Tr_howManyColours 8 [xA 5 a0, xI x1, xI x2] [] w Q := by
  refine x_goN 4 (pc' := if w a0 8 ≤ x2 then 35 else 16) (ls' := [xA 5 a0, xI x1, xI x2]) (st' := []) (w' := w) rfl ?_
  refine x_br (fun c1 => ?_) (fun c1 => ?_)
  · skip
    refine x_goN 1 (pc' := 36) (ls' := [xA 5 a0, xI x1, xI x2]) (st' := [xI x1]) (w' := w) rfl ?_
    exact x_ret (P := True) rfl trivial (h.1 c1)
  · skip
    refine x_goN 4 (pc' := 22) (ls' := [xA 5 a0, xI x1, xI x2]) (st' := [xI x2, xA 108 (32 * a0 + 8), xI x1]) (w' := w) rfl ?_
    refine x_ob (P := vp_in x2 8) (pc' := 23) (ls' := [xA 5 a0, xI x1, xI x2]) (st' := [xI (w (32 * a0 + 8) x2.toNatClampNeg), xI x1]) (w' := w) rfl (h.2 c1).1 ?_
    refine x_goN 2 (pc' := 25) (ls' := [xA 5 a0, xI x1, xI x2]) (st' := [xI ((w (32 * a0 + 8) x2.toNatClampNeg) + 1), xI x1]) (w' := w) rfl ?_
    refine x_ob (P := 1 ≤ (d + 4)) (pc' := 28) (ls' := [xA 5 a0, xI x1, xI x2]) (st' := [xI (if x1 < (w (32 * a0 + 8) x2.toNatClampNeg) + 1 then (w (32 * a0 + 8) x2.toNatClampNeg) + 1 else x1)]) (w' := w) rfl (Nat.succ_le_succ (Nat.zero_le _)) ?_
    refine x_goN 3 (pc' := 8) (ls' := [xA 5 a0, xI (if x1 < (w (32 * a0 + 8) x2.toNatClampNeg) + 1 then (w (32 * a0 + 8) x2.toNatClampNeg) + 1 else x1), xI (x2 + 1)]) (st' := []) (w' := w) rfl ?_
    exact (h.2 c1).2
def nCo (T : xT) : Nat := z_mx (tn T) (fun l => tCl T l + 1)
theorem L_Tr_howManyColours {d t : Nat} {T : xT} {w : xWd} {Q : xMV → xWd → Prop} (hR : tR w t T) (hc : ∀ l, l < tn T → w (32 * t + 8) l = nI (tCl T l)) (h : Q (xI (nI (nCo T))) w) : ∀ k l : Nat, l + k = tn T → xWp (d + 4) m_Tr_howManyColours 8 [xA 5 t, xI (nI (z_mx l (fun l => tCl T l + 1))), xI (nI l)] [] w Q := by
  have h8 := tR_n8 hR
  intro k
  induction k with
  | zero =>
    intro l hl
    have e : l = tn T := by omega
    subst e
    exact G_Tr_howManyColours_8 ⟨fun _ => h, fun c => absurd (tR_end hR) c⟩
  | succ k ih =>
    intro l hl
    have hlt : l < tn T := by omega
    refine G_Tr_howManyColours_8 ⟨fun c => absurd c (tR_ge hR hlt), fun c => ⟨z_in (by omega) (by decide), ?_⟩⟩
    have b1 := z_mx_le l 8 (fun l => tCl T l + 1) (fun j hj => by have := tCl_lt (T := T) (show j < 8 by omega); omega)
    have b2 := tCl_lt (T := T) (show l < 8 by omega)
    rw [z_cl' (by omega), hc l hlt, nI_1, nI_1, z_max (by omega) (by omega)]
    exact ih (l + 1) (by omega)
theorem S_Tr_howManyColours {d t : Nat} {T : xT} {w : xWd} {Q : xMV → xWd → Prop} (hR : tR w t T) (h : ∀ w', cG t T w w' (tn T) → Q (xI (nI (nCo T))) w') : xWp (d + 4) m_Tr_howManyColours 0 [xA 5 t, xU, xU] [] w Q := by
  refine G_Tr_howManyColours_0 (S_Tr_giveColours hR (fun w' hg => ?_))
  exact G_Tr_howManyColours_4 (L_Tr_howManyColours (cG_R hR hg) hg.2 (h w' hg) (tn T) 0 (Nat.zero_add _))
/-! later uses -/
theorem luI_9 {x : Nat} (h : x < 2 ^ 31) : luI x = -9 ↔ x = 0 := by
  unfold luI
  by_cases e : x = 0
  · rw [if_pos e]; exact ⟨fun _ => e, fun _ => rfl⟩
  · rw [if_neg e]; exact ⟨fun q => absurd q.symm (z_n9 h), fun q => absurd q e⟩
theorem luI_p {x : Nat} (h : x ≠ 0) : luI x = nI x := if_neg h
theorem z_mn_le {p : Nat → Bool} {f : Nat → Nat} {B : Nat} : ∀ (k : Nat), (∀ j, j < k → f j ≤ B) → z_mn p f k ≤ B
  | 0, _ => Nat.zero_le _
  | k + 1, h => by
    have ih := z_mn_le (p := p) k (fun j hj => h j (by omega))
    have h1 := h k (by omega)
    rw [z_mn_s]
    split
    · split
      · exact h1
      · exact Nat.le_trans (Nat.min_le_right _ _) h1
    · exact ih
theorem G_Tr_laterUse_0 {d : Nat} {a0 : Nat} {x1 : Int32} {x2 : Int32} {w : xWd} {Q : xMV → xWd → Prop} (h : xWp (d + 1) m_Tr_laterUse 6 [xA 5 a0, xI x1, xI x2, xI (-9), xI 0, xU] [] w Q) : xWp (d + 1) m_Tr_laterUse 0 [xA 5 a0, xI x1, xI x2, xU, xU, xU] [] w Q := by
  refine x_goN 4 (pc' := 6) (ls' := [xA 5 a0, xI x1, xI x2, xI (-9), xI 0, xU]) (st' := []) (w' := w) rfl ?_
  exact h
theorem G_Tr_laterUse_6 {d : Nat} {a0 : Nat} {x1 : Int32} {x2 : Int32} {x3 : Int32} {x4 : Int32} {w : xWd} {Q : xMV → xWd → Prop} (h : ((w a0 8 ≤ x4 → Q (xI x3) w) ∧ (¬ (w a0 8 ≤ x4) → (vp_in x4 8 ∧ ((p_in (w (32 * a0 + 3) x4.toNatClampNeg) x2 → (vp_in x4 8 ∧ ((p_in (w (32 * a0 + 7) x4.toNatClampNeg) x1 → (vp_in x4 8 ∧ (vp_in x2 8 ∧ ((x3 = (-9) → xWp (d + 1) m_Tr_laterUse 6 [xA 5 a0, xI x1, xI x2, xI ((w (32 * a0 + 4) x4.toNatClampNeg) - (w (32 * a0 + 4) x2.toNatClampNeg)), xI (x4 + 1), xU] [] w Q) ∧ (¬ (x3 = (-9)) → xWp (d + 1) m_Tr_laterUse 6 [xA 5 a0, xI x1, xI x2, xI (if (w (32 * a0 + 4) x4.toNatClampNeg) - (w (32 * a0 + 4) x2.toNatClampNeg) < x3 then (w (32 * a0 + 4) x4.toNatClampNeg) - (w (32 * a0 + 4) x2.toNatClampNeg) else x3), xI (x4 + 1), xU] [] w Q))))) ∧ (¬ (p_in (w (32 * a0 + 7) x4.toNatClampNeg) x1) → xWp (d + 1) m_Tr_laterUse 6 [xA 5 a0, xI x1, xI x2, xI x3, xI (x4 + 1), xU] [] w Q)))) ∧ (¬ (p_in (w (32 * a0 + 3) x4.toNatClampNeg) x2) → xWp (d + 1) m_Tr_laterUse 6 [xA 5 a0, xI x1, xI x2, xI x3, xI (x4 + 1), xU] [] w Q)))))) : xWp (d + 1) m_Tr_laterUse 6 [xA 5 a0, xI x1, xI x2, xI x3, xI x4, xU] [] w Q := by
  refine x_goN 4 (pc' := if w a0 8 ≤ x4 then 83 else 15) (ls' := [xA 5 a0, xI x1, xI x2, xI x3, xI x4, xU]) (st' := []) (w' := w) rfl ?_
  refine x_br (fun c1 => ?_) (fun c1 => ?_)
  · skip
    refine x_goN 1 (pc' := 84) (ls' := [xA 5 a0, xI x1, xI x2, xI x3, xI x4, xU]) (st' := [xI x3]) (w' := w) rfl ?_
    exact x_ret (P := True) rfl trivial (h.1 c1)
  · skip
    refine x_goN 3 (pc' := 21) (ls' := [xA 5 a0, xI x1, xI x2, xI x3, xI x4, xU]) (st' := [xI x4, xA 108 (32 * a0 + 3)]) (w' := w) rfl ?_
    refine x_ob (P := vp_in x4 8) (pc' := 22) (ls' := [xA 5 a0, xI x1, xI x2, xI x3, xI x4, xU]) (st' := [xI (w (32 * a0 + 3) x4.toNatClampNeg)]) (w' := w) rfl (h.2 c1).1 ?_
    refine x_goN 1 (pc' := 23) (ls' := [xA 5 a0, xI x1, xI x2, xI x3, xI x4, xU]) (st' := [xI x2, xI (w (32 * a0 + 3) x4.toNatClampNeg)]) (w' := w) rfl ?_
    refine x_call (y := m_Vp_inSet) (as := [xI (w (32 * a0 + 3) x4.toNatClampNeg), xI x2]) (rst := []) rfl [xI (w (32 * a0 + 3) x4.toNatClampNeg), xI x2] rfl ?_
    refine S_Vp_inSet (fun c2 => ?_) (fun c2 => ?_)
    · skip
      refine x_goN 1 (pc' := if (1 : Int32) = (0 : Int32) then 77 else 29) (ls' := [xA 5 a0, xI x1, xI x2, xI x3, xI x4, xU]) (st' := []) (w' := w) rfl ?_
      refine x_brF (by decide) ?_
      refine x_goN 3 (pc' := 35) (ls' := [xA 5 a0, xI x1, xI x2, xI x3, xI x4, xU]) (st' := [xI x4, xA 108 (32 * a0 + 7)]) (w' := w) rfl ?_
      refine x_ob (P := vp_in x4 8) (pc' := 36) (ls' := [xA 5 a0, xI x1, xI x2, xI x3, xI x4, xU]) (st' := [xI (w (32 * a0 + 7) x4.toNatClampNeg)]) (w' := w) rfl ((h.2 c1).2.1 c2).1 ?_
      refine x_goN 1 (pc' := 37) (ls' := [xA 5 a0, xI x1, xI x2, xI x3, xI x4, xU]) (st' := [xI x1, xI (w (32 * a0 + 7) x4.toNatClampNeg)]) (w' := w) rfl ?_
      refine x_call (y := m_Vp_inSet) (as := [xI (w (32 * a0 + 7) x4.toNatClampNeg), xI x1]) (rst := []) rfl [xI (w (32 * a0 + 7) x4.toNatClampNeg), xI x1] rfl ?_
      refine S_Vp_inSet (fun c3 => ?_) (fun c3 => ?_)
      · skip
        refine x_goN 1 (pc' := if (1 : Int32) = (0 : Int32) then 77 else 43) (ls' := [xA 5 a0, xI x1, xI x2, xI x3, xI x4, xU]) (st' := []) (w' := w) rfl ?_
        refine x_brF (by decide) ?_
        refine x_goN 3 (pc' := 49) (ls' := [xA 5 a0, xI x1, xI x2, xI x3, xI x4, xU]) (st' := [xI x4, xA 108 (32 * a0 + 4)]) (w' := w) rfl ?_
        refine x_ob (P := vp_in x4 8) (pc' := 50) (ls' := [xA 5 a0, xI x1, xI x2, xI x3, xI x4, xU]) (st' := [xI (w (32 * a0 + 4) x4.toNatClampNeg)]) (w' := w) rfl (((h.2 c1).2.1 c2).2.1 c3).1 ?_
        refine x_goN 3 (pc' := 55) (ls' := [xA 5 a0, xI x1, xI x2, xI x3, xI x4, xU]) (st' := [xI x2, xA 108 (32 * a0 + 4), xI (w (32 * a0 + 4) x4.toNatClampNeg)]) (w' := w) rfl ?_
        refine x_ob (P := vp_in x2 8) (pc' := 56) (ls' := [xA 5 a0, xI x1, xI x2, xI x3, xI x4, xU]) (st' := [xI (w (32 * a0 + 4) x2.toNatClampNeg), xI (w (32 * a0 + 4) x4.toNatClampNeg)]) (w' := w) rfl (((h.2 c1).2.1 c2).2.1 c3).2.1 ?_
        refine x_goN 5 (pc' := if x3 = (-9) then 65 else 70) (ls' := [xA 5 a0, xI x1, xI x2, xI x3, xI x4, xI ((w (32 * a0 + 4) x4.toNatClampNeg) - (w (32 * a0 + 4) x2.toNatClampNeg))]) (st' := []) (w' := w) rfl ?_
        refine x_br (fun c4 => ?_) (fun c4 => ?_)
        · skip
          refine x_goN 5 (pc' := 6) (ls' := [xA 5 a0, xI x1, xI x2, xI ((w (32 * a0 + 4) x4.toNatClampNeg) - (w (32 * a0 + 4) x2.toNatClampNeg)), xI (x4 + 1), xI ((w (32 * a0 + 4) x4.toNatClampNeg) - (w (32 * a0 + 4) x2.toNatClampNeg))]) (st' := []) (w' := w) rfl ?_
          exact x_weak (((((h.2 c1).2.1 c2).2.1 c3).2.2.1 c4)) ⟨Or.inl rfl, Or.inl rfl, Or.inl rfl, Or.inl rfl, Or.inl rfl, Or.inr ⟨rfl, rfl⟩, trivial⟩
        · skip
          refine x_goN 2 (pc' := 73) (ls' := [xA 5 a0, xI x1, xI x2, xI x3, xI x4, xI ((w (32 * a0 + 4) x4.toNatClampNeg) - (w (32 * a0 + 4) x2.toNatClampNeg))]) (st' := [xI ((w (32 * a0 + 4) x4.toNatClampNeg) - (w (32 * a0 + 4) x2.toNatClampNeg)), xI x3]) (w' := w) rfl ?_
          refine x_ob (P := 1 ≤ (d + 1)) (pc' := 76) (ls' := [xA 5 a0, xI x1, xI x2, xI x3, xI x4, xI ((w (32 * a0 + 4) x4.toNatClampNeg) - (w (32 * a0 + 4) x2.toNatClampNeg))]) (st' := [xI (if (w (32 * a0 + 4) x4.toNatClampNeg) - (w (32 * a0 + 4) x2.toNatClampNeg) < x3 then (w (32 * a0 + 4) x4.toNatClampNeg) - (w (32 * a0 + 4) x2.toNatClampNeg) else x3)]) (w' := w) rfl (Nat.succ_le_succ (Nat.zero_le _)) ?_
          refine x_goN 3 (pc' := 6) (ls' := [xA 5 a0, xI x1, xI x2, xI (if (w (32 * a0 + 4) x4.toNatClampNeg) - (w (32 * a0 + 4) x2.toNatClampNeg) < x3 then (w (32 * a0 + 4) x4.toNatClampNeg) - (w (32 * a0 + 4) x2.toNatClampNeg) else x3), xI (x4 + 1), xI ((w (32 * a0 + 4) x4.toNatClampNeg) - (w (32 * a0 + 4) x2.toNatClampNeg))]) (st' := []) (w' := w) rfl ?_
          exact x_weak (((((h.2 c1).2.1 c2).2.1 c3).2.2.2 c4)) ⟨Or.inl rfl, Or.inl rfl, Or.inl rfl, Or.inl rfl, Or.inl rfl, Or.inr ⟨rfl, rfl⟩, trivial⟩
      · skip
        refine x_goN 1 (pc' := if (0 : Int32) = (0 : Int32) then 77 else 43) (ls' := [xA 5 a0, xI x1, xI x2, xI x3, xI x4, xU]) (st' := []) (w' := w) rfl ?_
        refine x_brT (by decide) ?_
        refine x_goN 2 (pc' := 6) (ls' := [xA 5 a0, xI x1, xI x2, xI x3, xI (x4 + 1), xU]) (st' := []) (w' := w) rfl ?_
        exact (((h.2 c1).2.1 c2).2.2 c3)
    · skip
      refine x_goN 1 (pc' := if (0 : Int32) = (0 : Int32) then 77 else 29) (ls' := [xA 5 a0, xI x1, xI x2, xI x3, xI x4, xU]) (st' := []) (w' := w) rfl ?_
      refine x_brT (by decide) ?_
      refine x_goN 2 (pc' := 6) (ls' := [xA 5 a0, xI x1, xI x2, xI x3, xI (x4 + 1), xU]) (st' := []) (w' := w) rfl ?_
      exact ((h.2 c1).2.2 c2)
theorem L_Tr_laterUse {d t v l : Nat} {T : xT} {w : xWd} {Q : xMV → xWd → Prop} (hR : tR w t T) (hv : v < 8) (hl : l < tn T) (h : Q (xI (luI (tL T l v))) w) : ∀ k m : Nat, m + k = tn T → xWp (d + 1) m_Tr_laterUse 6 [xA 5 t, xI (nI v), xI (nI l), xI (luI (z_mn (fun m => tb T m l && tr T m v) (fun m => td T m - td T l) m)), xI (nI m), xU] [] w Q := by
  have h8 := tR_n8 hR
  intro k
  induction k with
  | zero =>
    intro m hm
    have e : m = tn T := by omega
    subst e
    exact G_Tr_laterUse_6 ⟨fun _ => h, fun c => absurd (tR_end hR) c⟩
  | succ k ih =>
    intro m hm
    have hlt : m < tn T := by omega
    have hb := z_mn_le (p := fun m => tb T m l && tr T m v) (f := fun m => td T m - td T l) (B := 8) m (fun j hj => by have := td_lt8 hR.2.1 (show j < tn T by omega); omega)
    have hskip : ¬ ((tb T m l && tr T m v) = true) → xWp (d + 1) m_Tr_laterUse 6 [xA 5 t, xI (nI v), xI (nI l), xI (luI (z_mn (fun m => tb T m l && tr T m v) (fun m => td T m - td T l) m)), xI (nI m + 1), xU] [] w Q := by
      intro hp
      have := ih (m + 1) (by omega)
      rw [z_mn_s, if_neg hp] at this
      rw [nI_1]; exact this
    refine G_Tr_laterUse_6 ⟨fun c => absurd c (tR_ge hR hlt), fun c => ⟨z_in (by omega) (by decide), fun c1 => ⟨z_in (by omega) (by decide), fun c2 => ⟨z_in (by omega) (by decide), z_in (by omega) (by decide), ?_⟩, fun c2 => hskip ?_⟩, fun c1 => hskip ?_⟩⟩
    · have p1 := (tC_op hR hlt (by omega)).mp c1
      have p2 := (tC_sp hR hlt hv).mp c2
      have hd := tb_td hR.2.1 m m l (Nat.le_refl _) hlt p1
      have hd8 := td_lt8 hR.2.1 hlt
      have := ih (m + 1) (by omega)
      rw [z_mn_s, if_pos (by rw [p1, p2]; rfl)] at this
      rw [tC_d hR hlt, tC_d hR hl, pk_sub (by omega), nI_1]
      refine ⟨fun c3 => ?_, fun c3 => ?_⟩
      · have e := (luI_9 (by omega)).mp c3
        rw [if_pos e, luI_p (by omega)] at this
        exact this
      · have e : z_mn (fun m => tb T m l && tr T m v) (fun m => td T m - td T l) m ≠ 0 := fun q => c3 ((luI_9 (by omega)).mpr q)
        rw [if_neg e, luI_p (by omega)] at this
        rw [luI_p e, z_min (by omega) (by omega)]
        exact this
    · intro q
      rw [Bool.and_eq_true] at q
      exact c2 ((tC_sp hR hlt hv).mpr q.2)
    · intro q
      rw [Bool.and_eq_true] at q
      exact c1 ((tC_op hR hlt (by omega)).mpr q.1)
theorem S_Tr_laterUse {d t v l : Nat} {T : xT} {w : xWd} {Q : xMV → xWd → Prop} (hR : tR w t T) (hv : v < 8) (hl : l < tn T) (h : Q (xI (luI (tL T l v))) w) : xWp (d + 1) m_Tr_laterUse 0 [xA 5 t, xI (nI v), xI (nI l), xU, xU, xU] [] w Q :=
  G_Tr_laterUse_0 (L_Tr_laterUse hR hv hl h (tn T) 0 (Nat.zero_add _))

