/-! THE MODEL'S LINES: how many twos cross; reuse; sets of used ones -/
theorem z_sm_add : ∀ (n : Nat) (f g : Nat → Nat), z_sm n (fun v => f v + g v) = z_sm n f + z_sm n g
  | 0, _, _ => rfl
  | n + 1, f, g => by
    rw [z_sm_s, z_sm_s, z_sm_s, z_sm_add n f g]; omega
theorem z_sm_if : ∀ (n : Nat) (p : Nat → Bool), z_sm n (fun v => if p v then 1 else 0) = z_cn n p
  | 0, _ => rfl
  | n + 1, p => by rw [z_sm_s, z_cn_s, z_sm_if n p]
/-- twos of a relation that goes both ways, counted from both sides -/
theorem z_twos {R : Nat → Nat → Bool} (hs : ∀ a b, R a b = R b a) : ∀ n : Nat, z_sm n (fun v => z_cn n (fun u => decide (u ≠ v) && R v u)) = 2 * z_sm n (fun a => z_cn n (fun b => decide (a < b) && R a b))
  | 0 => rfl
  | n + 1 => by
    have ih := z_twos hs n
    rw [z_sm_s, z_sm_s]
    have e1 : z_sm n (fun v => z_cn (n + 1) (fun u => decide (u ≠ v) && R v u)) = z_sm n (fun v => z_cn n (fun u => decide (u ≠ v) && R v u)) + z_cn n (fun v => R v n) := by
      rw [← z_sm_if, ← z_sm_add]
      apply z_sm_congr
      intro v hv
      rw [z_cn_s]
      congr 1
      rw [decide_eq_true (show n ≠ v by omega), Bool.true_and]
    have e2 : z_sm n (fun a => z_cn (n + 1) (fun b => decide (a < b) && R a b)) = z_sm n (fun a => z_cn n (fun b => decide (a < b) && R a b)) + z_cn n (fun v => R v n) := by
      rw [← z_sm_if, ← z_sm_add]
      apply z_sm_congr
      intro v hv
      rw [z_cn_s]
      congr 1
      rw [decide_eq_true hv, Bool.true_and]
    have e3 : z_cn (n + 1) (fun u => decide (u ≠ n) && R n u) = z_cn n (fun v => R v n) := by
      rw [z_cn_s, decide_eq_false (show ¬ n ≠ n by omega), Bool.false_and, if_neg Bool.false_ne_true, Nat.add_zero]
      apply z_cn_congr
      intro j hj
      rw [decide_eq_true (show j ≠ n by omega), Bool.true_and, hs]
    have e4 : z_cn (n + 1) (fun b => decide (n < b) && R n b) = 0 := by
      rw [z_cn_congr (n + 1) (q := fun _ => false) (fun j hj => by rw [decide_eq_false (show ¬ n < j by omega), Bool.false_and])]
      have : ∀ k, z_cn k (fun _ => false) = 0 := by
        intro k
        induction k with
        | zero => rfl
        | succ k ih => rw [z_cn_s, ih]; rfl
      exact this _
    rw [e1, e2, e3, e4, ih]
    omega
def nCm (T : xT) : Nat := z_sm (tn T) (fun a => z_cn (tn T) (fun b => decide (a < b) && cr T a b))
theorem nCr_eq {T : xT} (h : tCh T) : nCr T = nCm T := by
  unfold nCr nCm
  have e : z_sm (tn T) (fun v => z_pc (mCr T v)) = z_sm (tn T) (fun v => z_cn (tn T) (fun u => decide (u ≠ v) && cr T v u)) := by
    apply z_sm_congr
    intro v _
    rw [← mCr_n h, z_pc_mk h.1, z_cn_up 8 h.1]
  rw [e, z_twos (cr_sym T)]
  omega
theorem nCm_le {T : xT} (h : tn T ≤ 8) : nCm T ≤ 64 := by
  have := z_sm_le (tn T) 8 (fun a => z_cn (tn T) (fun b => decide (a < b) && cr T a b)) (fun j _ => by have := z_cn_le (tn T) (fun b => decide (j < b) && cr T j b); omega)
  unfold nCm
  omega
theorem G_Md_manyCross_0 {d : Nat} {w : xWd} {Q : xMV → xWd → Prop} (h : xWp (d + 4) m_Md_manyCross 4 [xA 7 2, xI 0, xI 0, xU] [] w Q) : xWp (d + 4) m_Md_manyCross 0 [xA 7 2, xU, xU, xU] [] w Q := by
  refine x_goN 4 (pc' := 4) (ls' := [xA 7 2, xI 0, xI 0, xU]) (st' := []) (w' := w) rfl ?_
  exact h
theorem G_Md_manyCross_4 {d : Nat} {x1 : Int32} {x2 : Int32} {w : xWd} {Q : xMV → xWd → Prop} (h : ((w 2 5 ≤ x2 → Q (xI x1) w) ∧ (¬ (w 2 5 ≤ x2) → xWp (d + 4) m_Md_manyCross 16 [xA 7 2, xI x1, xI x2, xI (x2 + 1)] [] w Q))) : xWp (d + 4) m_Md_manyCross 4 [xA 7 2, xI x1, xI x2, xU] [] w Q := by
  refine x_goN 4 (pc' := if w 2 5 ≤ x2 then 53 else 12) (ls' := [xA 7 2, xI x1, xI x2, xU]) (st' := []) (w' := w) rfl ?_
  refine x_br (fun c1 => ?_) (fun c1 => ?_)
  · skip
    refine x_goN 1 (pc' := 54) (ls' := [xA 7 2, xI x1, xI x2, xU]) (st' := [xI x1]) (w' := w) rfl ?_
    exact x_ret (P := True) rfl trivial (h.1 c1)
  · skip
    refine x_goN 4 (pc' := 16) (ls' := [xA 7 2, xI x1, xI x2, xI (x2 + 1)]) (st' := []) (w' := w) rfl ?_
    exact (h.2 c1)
theorem G_Md_manyCross_16 {d : Nat} {x1 : Int32} {x2 : Int32} {x3 : Int32} {w : xWd} {Q : xMV → xWd → Prop} (h : ((w 2 5 ≤ x3 → xWp (d + 4) m_Md_manyCross 4 [xA 7 2, xI x1, xI (x2 + 1), xU] [] w Q) ∧ (¬ (w 2 5 ≤ x3) → xWp (d + 3) m_Md_doCross 0 [xA 7 2, xI x2, xI x3, xU, xU] [] w (fun a w' => xWp (d + 4) m_Md_manyCross 31 [xA 7 2, xI x1, xI x2, xI x3] (x_pu a [xI x1]) w' Q)))) : xWp (d + 4) m_Md_manyCross 16 [xA 7 2, xI x1, xI x2, xI x3] [] w Q := by
  refine x_goN 4 (pc' := if w 2 5 ≤ x3 then 47 else 24) (ls' := [xA 7 2, xI x1, xI x2, xI x3]) (st' := []) (w' := w) rfl ?_
  refine x_br (fun c1 => ?_) (fun c1 => ?_)
  · skip
    refine x_goN 2 (pc' := 4) (ls' := [xA 7 2, xI x1, xI (x2 + 1), xI x3]) (st' := []) (w' := w) rfl ?_
    exact x_weak ((h.1 c1)) ⟨Or.inl rfl, Or.inl rfl, Or.inl rfl, Or.inr ⟨rfl, rfl⟩, trivial⟩
  · skip
    refine x_goN 4 (pc' := 28) (ls' := [xA 7 2, xI x1, xI x2, xI x3]) (st' := [xI x3, xI x2, xA 7 2, xI x1]) (w' := w) rfl ?_
    refine x_call (y := m_Md_doCross) (as := [xA 7 2, xI x2, xI x3]) (rst := [xI x1]) rfl [xA 7 2, xI x2, xI x3, xU, xU] rfl ?_
    exact (h.2 c1)
theorem G_Md_manyCross_31 {d : Nat} {x1 : Int32} {x2 : Int32} {x3 : Int32} {s1 : Int32} {s0 : Int32} {w : xWd} {Q : xMV → xWd → Prop} (h : ((s1 = 0 → xWp (d + 4) m_Md_manyCross 16 [xA 7 2, xI (s0 + 0), xI x2, xI (x3 + 1)] [] w Q) ∧ (¬ (s1 = 0) → xWp (d + 4) m_Md_manyCross 16 [xA 7 2, xI (s0 + 1), xI x2, xI (x3 + 1)] [] w Q))) : xWp (d + 4) m_Md_manyCross 31 [xA 7 2, xI x1, xI x2, xI x3] [xI s1, xI s0] w Q := by
  refine x_goN 1 (pc' := if s1 = 0 then 38 else 34) (ls' := [xA 7 2, xI x1, xI x2, xI x3]) (st' := [xI s0]) (w' := w) rfl ?_
  refine x_br (fun c1 => ?_) (fun c1 => ?_)
  · skip
    refine x_goN 5 (pc' := 16) (ls' := [xA 7 2, xI (s0 + 0), xI x2, xI (x3 + 1)]) (st' := []) (w' := w) rfl ?_
    exact (h.1 c1)
  · skip
    refine x_goN 6 (pc' := 16) (ls' := [xA 7 2, xI (s0 + 1), xI x2, xI (x3 + 1)]) (st' := []) (w' := w) rfl ?_
    exact (h.2 c1)
theorem L_Md_manyCross_b {d a c : Nat} {T : xT} {w : xWd} {Q : xMV → xWd → Prop} (hS : tS w T) (ha : a < tn T)
    (h : xWp (d + 4) m_Md_manyCross 4 [xA 7 2, xI (nI (c + z_cn (tn T) (fun b => decide (a < b) && cr T a b))), xI (nI (a + 1)), xU] [] w Q) : ∀ k b : Nat, b + k = tn T → a < b → xWp (d + 4) m_Md_manyCross 16 [xA 7 2, xI (nI (c + z_cn b (fun b => decide (a < b) && cr T a b))), xI (nI a), xI (nI b)] [] w Q := by
  have h8 := tS_n8 hS
  intro k
  induction k with
  | zero =>
    intro b hb hab
    have e : b = tn T := by omega
    subst e
    refine G_Md_manyCross_16 ⟨fun _ => ?_, fun c => absurd (tS_end hS) c⟩
    rw [nI_1]; exact h
  | succ k ih =>
    intro b hb hab
    have hlt : b < tn T := by omega
    have := ih (b + 1) (by omega) (by omega)
    rw [z_cn_s, decide_eq_true hab, Bool.true_and] at this
    refine G_Md_manyCross_16 ⟨fun c => absurd c (tS_ge hS hlt), fun _ => S_Md_doCross hS (by omega) (by omega) (fun p => ?_) (fun p => ?_)⟩
    · refine G_Md_manyCross_31 ⟨fun c => absurd c n_10, fun _ => ?_⟩
      rw [p, if_pos rfl, ← Nat.add_assoc] at this
      rw [nI_1, nI_1]; exact this
    · refine G_Md_manyCross_31 ⟨fun _ => ?_, fun c => absurd rfl c⟩
      rw [Bool.eq_false_iff.mpr p, if_neg Bool.false_ne_true, Nat.add_zero] at this
      rw [z_add0, nI_1]; exact this
theorem z_cn_0 {p : Nat → Bool} : ∀ k, (∀ j, j < k → p j = false) → z_cn k p = 0
  | 0, _ => rfl
  | k + 1, h => by rw [z_cn_s, h k (by omega), z_cn_0 k (fun j hj => h j (by omega))]; rfl
theorem L_Md_manyCross {d : Nat} {T : xT} {w : xWd} {Q : xMV → xWd → Prop} (hS : tS w T) (h : Q (xI (nI (nCr T))) w) : ∀ k a : Nat, a + k = tn T → xWp (d + 4) m_Md_manyCross 4 [xA 7 2, xI (nI (z_sm a (fun a => z_cn (tn T) (fun b => decide (a < b) && cr T a b)))), xI (nI a), xU] [] w Q := by
  have h8 := tS_n8 hS
  intro k
  induction k with
  | zero =>
    intro a ha
    have e : a = tn T := by omega
    subst e
    rw [nCr_eq hS.2.1] at h
    exact G_Md_manyCross_4 ⟨fun _ => h, fun c => absurd (tS_end hS) c⟩
  | succ k ih =>
    intro a ha
    have hlt : a < tn T := by omega
    refine G_Md_manyCross_4 ⟨fun c => absurd c (tS_ge hS hlt), fun _ => ?_⟩
    have := L_Md_manyCross_b (d := d) (c := z_sm a (fun a => z_cn (tn T) (fun b => decide (a < b) && cr T a b))) (Q := Q) hS hlt (ih (a + 1) (by omega)) (tn T - (a + 1)) (a + 1) (by omega) (by omega)
    rw [z_cn_0 (a + 1) (fun j hj => by rw [decide_eq_false (show ¬ a < j by omega), Bool.false_and]), Nat.add_zero] at this
    rw [nI_1]; exact this
theorem S_Md_manyCross {d : Nat} {T : xT} {w : xWd} {Q : xMV → xWd → Prop} (hS : tS w T) (h : Q (xI (nI (nCr T))) w) : xWp (d + 4) m_Md_manyCross 0 [xA 7 2, xU, xU, xU] [] w Q :=
  G_Md_manyCross_0 (L_Md_manyCross hS h (tn T) 0 (Nat.zero_add _))
theorem G_Md_canReuse_0 {d : Nat} {x1 : Int32} {x2 : Int32} {x3 : Int32} {w : xWd} {Q : xMV → xWd → Prop} (h : xWp d m_Md_isBelow 0 [xA 7 2, xI x1, xI x3, xU] [] w (fun a w' => xWp (d + 1) m_Md_canReuse 6 [xA 7 2, xI x1, xI x2, xI x3] (x_pu a []) w' Q)) : xWp (d + 1) m_Md_canReuse 0 [xA 7 2, xI x1, xI x2, xI x3] [] w Q := by
  refine x_goN 3 (pc' := 3) (ls' := [xA 7 2, xI x1, xI x2, xI x3]) (st' := [xI x3, xI x1, xA 7 2]) (w' := w) rfl ?_
  refine x_call (y := m_Md_isBelow) (as := [xA 7 2, xI x1, xI x3]) (rst := []) rfl [xA 7 2, xI x1, xI x3, xU] rfl ?_
  exact h
theorem G_Md_canReuse_6 {d : Nat} {x1 : Int32} {x2 : Int32} {x3 : Int32} {s0 : Int32} {w : xWd} {Q : xMV → xWd → Prop} (h : ((s0 = 0 → Q (xI 0) w) ∧ (¬ (s0 = 0) → (vp_in x1 8 ∧ ((w 73 x1.toNatClampNeg < 2 → Q (xI 1) w) ∧ (¬ (w 73 x1.toNatClampNeg < 2) → (vp_in (((2 * x1) + 1) - x2) 16 ∧ ((w 74 (((2 * x1) + 1) - x2).toNatClampNeg = x3 → Q (xI 0) w) ∧ (¬ (w 74 (((2 * x1) + 1) - x2).toNatClampNeg = x3) → Q (xI 1) w))))))))) : xWp (d + 1) m_Md_canReuse 6 [xA 7 2, xI x1, xI x2, xI x3] [xI s0] w Q := by
  refine x_goN 1 (pc' := if s0 = 0 then 39 else 9) (ls' := [xA 7 2, xI x1, xI x2, xI x3]) (st' := []) (w' := w) rfl ?_
  refine x_br (fun c1 => ?_) (fun c1 => ?_)
  · skip
    refine x_goN 1 (pc' := 40) (ls' := [xA 7 2, xI x1, xI x2, xI x3]) (st' := [xI 0]) (w' := w) rfl ?_
    exact x_ret (P := (0 : Int32) = 0 ∨ (0 : Int32) = 1) rfl (by decide) (h.1 c1)
  · skip
    refine x_goN 3 (pc' := 14) (ls' := [xA 7 2, xI x1, xI x2, xI x3]) (st' := [xI x1, xA 108 73]) (w' := w) rfl ?_
    refine x_ob (P := vp_in x1 8) (pc' := 15) (ls' := [xA 7 2, xI x1, xI x2, xI x3]) (st' := [xI (w 73 x1.toNatClampNeg)]) (w' := w) rfl (h.2 c1).1 ?_
    refine x_goN 2 (pc' := if w 73 x1.toNatClampNeg < 2 then 35 else 19) (ls' := [xA 7 2, xI x1, xI x2, xI x3]) (st' := []) (w' := w) rfl ?_
    refine x_br (fun c2 => ?_) (fun c2 => ?_)
    · skip
      refine x_goN 2 (pc' := 40) (ls' := [xA 7 2, xI x1, xI x2, xI x3]) (st' := [xI 1]) (w' := w) rfl ?_
      exact x_ret (P := (1 : Int32) = 0 ∨ (1 : Int32) = 1) rfl (by decide) ((h.2 c1).2.1 c2)
    · skip
      refine x_goN 9 (pc' := 30) (ls' := [xA 7 2, xI x1, xI x2, xI x3]) (st' := [xI (((2 * x1) + 1) - x2), xA 116 74]) (w' := w) rfl ?_
      refine x_ob (P := vp_in (((2 * x1) + 1) - x2) 16) (pc' := 31) (ls' := [xA 7 2, xI x1, xI x2, xI x3]) (st' := [xI (w 74 (((2 * x1) + 1) - x2).toNatClampNeg)]) (w' := w) rfl ((h.2 c1).2.2 c2).1 ?_
      refine x_goN 2 (pc' := if w 74 (((2 * x1) + 1) - x2).toNatClampNeg = x3 then 39 else 35) (ls' := [xA 7 2, xI x1, xI x2, xI x3]) (st' := []) (w' := w) rfl ?_
      refine x_br (fun c3 => ?_) (fun c3 => ?_)
      · skip
        refine x_goN 1 (pc' := 40) (ls' := [xA 7 2, xI x1, xI x2, xI x3]) (st' := [xI 0]) (w' := w) rfl ?_
        exact x_ret (P := (0 : Int32) = 0 ∨ (0 : Int32) = 1) rfl (by decide) (((h.2 c1).2.2 c2).2.1 c3)
      · skip
        refine x_goN 2 (pc' := 40) (ls' := [xA 7 2, xI x1, xI x2, xI x3]) (st' := [xI 1]) (w' := w) rfl ?_
        exact x_ret (P := (1 : Int32) = 0 ∨ (1 : Int32) = 1) rfl (by decide) (((h.2 c1).2.2 c2).2.2 c3)
theorem pU_iff {T : xT} {a b c : Nat} (h8 : tn T ≤ 8) (ha : a < tn T) (hb : b < tm T a) (hm : tm T a ≤ 2) (hc : c < tn T) : pU T (nI a) (nI b) (nI c) ↔ tb T a c = true ∧ (tm T a = 2 → tu T (2 * a + (1 - b)) ≠ c) := by
  constructor
  · rintro ⟨a', b', c', e1, e2, e3, ha', hb', hc', h1, h2⟩
    have := (z_eq (by omega) (by omega)).mp e1
    subst this
    have := (z_eq (by omega) (by omega)).mp e2
    subst this
    have := (z_eq (by omega) (by omega)).mp e3
    subst this
    exact ⟨h1, h2⟩
  · rintro ⟨h1, h2⟩
    exact ⟨a, b, c, rfl, rfl, rfl, ha, hb, hc, h1, h2⟩
theorem S_Md_canReuse {d a b c : Nat} {T : xT} {w : xWd} {Q : xMV → xWd → Prop} (hS : tS w T) (ha : a < tn T) (hb : b < tm T a) (hc : c < tn T) (h1 : pU T (nI a) (nI b) (nI c) → Q (xI 1) w) (h2 : ¬ pU T (nI a) (nI b) (nI c) → Q (xI 0) w) : xWp (d + 1) m_Md_canReuse 0 [xA 7 2, xI (nI a), xI (nI b), xI (nI c)] [] w Q := by
  have h8 := tS_n8 hS
  have hm := tS_m2 hS ha
  have hp := pU_iff h8 ha hb hm hc
  refine G_Md_canReuse_0 (S_Md_isBelow hS ha (by omega) (fun p => ?_) (fun p => ?_))
  · refine G_Md_canReuse_6 ⟨fun c => absurd c n_10, fun _ => ⟨z_in (by omega) (by decide), ?_⟩⟩
    rw [tM_m hS ha]
    refine ⟨fun c1 => ?_, fun c1 => ?_⟩
    · have := (z_lt (b := 2) (by omega) (by decide)).mp c1
      exact h1 (hp.mpr ⟨p, fun q => by omega⟩)
    · have hm2 : tm T a = 2 := by
        have hge : ¬ tm T a < 2 := fun q => c1 ((z_lt (b := 2) (by omega) (by decide)).mpr q)
        omega
      have e : (2 : Int32) * nI a + 1 - nI b = nI (2 * a + (1 - b)) := by
        rw [show (2 : Int32) * nI a + 1 = nI (2 * a + 1) from by rw [show (2 : Int32) * nI a = nI (2 * a) from pk_mul 2 a, nI_1], pk_sub (by omega)]
        congr 1
        omega
      have hu := tu_lt hS.2 ha (show 1 - b < tm T a by omega)
      rw [e, z_cl' (by omega), tM_u hS ha (by omega)]
      refine ⟨z_in (by omega) (by decide), fun c2 => h2 (fun q => (hp.mp q).2 hm2 ((z_eq (by omega) (by omega)).mp c2)), fun c2 => h1 (hp.mpr ⟨p, fun _ q => c2 (by rw [q])⟩)⟩
  · exact G_Md_canReuse_6 ⟨fun _ => h2 (fun q => p (hp.mp q).1), fun c => absurd rfl c⟩
theorem G_Md_usedBy_0 {d : Nat} {x1 : Int32} {w : xWd} {Q : xMV → xWd → Prop} (h : xWp d m_Md_usedBy 4 [xA 7 2, xI x1, xI 0, xI 0] [] w Q) : xWp d m_Md_usedBy 0 [xA 7 2, xI x1, xU, xU] [] w Q := by
  refine x_goN 4 (pc' := 4) (ls' := [xA 7 2, xI x1, xI 0, xI 0]) (st' := []) (w' := w) rfl ?_
  exact h
theorem G_Md_usedBy_4 {d : Nat} {x1 : Int32} {x2 : Int32} {x3 : Int32} {w : xWd} {Q : xMV → xWd → Prop} (h : (vp_in x1 8 ∧ ((w 73 x1.toNatClampNeg ≤ x3 → Q (xI x2) w) ∧ (¬ (w 73 x1.toNatClampNeg ≤ x3) → (vp_in ((2 * x1) + x3) 16 ∧ xWp d m_Md_usedBy 4 [xA 7 2, xI x1, xI (x2 ||| ((1 : Int32) <<< ((w 74 ((2 * x1) + x3).toNatClampNeg) &&& 31))), xI (x3 + 1)] [] w Q))))) : xWp d m_Md_usedBy 4 [xA 7 2, xI x1, xI x2, xI x3] [] w Q := by
  refine x_goN 4 (pc' := 10) (ls' := [xA 7 2, xI x1, xI x2, xI x3]) (st' := [xI x1, xA 108 73, xI x3]) (w' := w) rfl ?_
  refine x_ob (P := vp_in x1 8) (pc' := 11) (ls' := [xA 7 2, xI x1, xI x2, xI x3]) (st' := [xI (w 73 x1.toNatClampNeg), xI x3]) (w' := w) rfl h.1 ?_
  refine x_goN 1 (pc' := if w 73 x1.toNatClampNeg ≤ x3 then 35 else 14) (ls' := [xA 7 2, xI x1, xI x2, xI x3]) (st' := []) (w' := w) rfl ?_
  refine x_br (fun c1 => ?_) (fun c1 => ?_)
  · skip
    refine x_goN 1 (pc' := 36) (ls' := [xA 7 2, xI x1, xI x2, xI x3]) (st' := [xI x2]) (w' := w) rfl ?_
    exact x_ret (P := True) rfl trivial (h.2.1 c1)
  · skip
    refine x_goN 9 (pc' := 25) (ls' := [xA 7 2, xI x1, xI x2, xI x3]) (st' := [xI ((2 * x1) + x3), xA 116 74, xI 1, xI x2]) (w' := w) rfl ?_
    refine x_ob (P := vp_in ((2 * x1) + x3) 16) (pc' := 26) (ls' := [xA 7 2, xI x1, xI x2, xI x3]) (st' := [xI (w 74 ((2 * x1) + x3).toNatClampNeg), xI 1, xI x2]) (w' := w) rfl (h.2.2 c1).1 ?_
    refine x_goN 5 (pc' := 4) (ls' := [xA 7 2, xI x1, xI (x2 ||| ((1 : Int32) <<< ((w 74 ((2 * x1) + x3).toNatClampNeg) &&& 31))), xI (x3 + 1)]) (st' := []) (w' := w) rfl ?_
    exact (h.2.2 c1).2
def tUn (T : xT) (l i : Nat) : Nat := z_mk 8 (fun v => z_any i (fun j => decide (tu T (2 * l + j) = v)))
theorem tUn_s {T : xT} {l i : Nat} (h : tu T (2 * l + i) < 8) : nI (tUn T l i) ||| nI (2 ^ tu T (2 * l + i)) = nI (tUn T l (i + 1)) := by
  rw [fa_or]
  congr 1
  apply Nat.eq_of_testBit_eq
  intro j
  unfold tUn
  rw [Nat.testBit_or, z_mk_tb, z_mk_tb, Nat.testBit_two_pow]
  show _ = (decide (j < 8) && (z_any i _ || decide (tu T (2 * l + i) = j)))
  by_cases hj : j < 8
  · rw [decide_eq_true hj, Bool.true_and, Bool.true_and]
  · rw [decide_eq_false hj, Bool.false_and, Bool.false_and, Bool.false_or]
    exact decide_eq_false (by omega)
theorem tUn_e {T : xT} {l : Nat} (hm : tm T l ≤ 2) : tUn T l (tm T l) = tU T l := by
  unfold tUn tU
  apply z_mk_congr
  intro v _
  have h1 := tr_iff (v := v) hm
  have h2 := z_any_iff (tm T l) (fun j => decide (tu T (2 * l + j) = v))
  cases hr : tr T l v with
  | true =>
    obtain ⟨j, a, b⟩ := h1.mp hr
    exact h2.mpr ⟨j, a, decide_eq_true b⟩
  | false =>
    apply Bool.eq_false_iff.mpr
    intro q
    obtain ⟨j, a, b⟩ := h2.mp q
    rw [h1.mpr ⟨j, a, of_decide_eq_true b⟩] at hr
    cases hr
theorem L_Md_usedBy {d l : Nat} {T : xT} {w : xWd} {Q : xMV → xWd → Prop} (hS : tS w T) (hl : l < tn T) (h : Q (xI (nI (tU T l))) w) : ∀ k i : Nat, i + k = tm T l → xWp d m_Md_usedBy 4 [xA 7 2, xI (nI l), xI (nI (tUn T l i)), xI (nI i)] [] w Q := by
  have h8 := tS_n8 hS
  have hm := tS_m2 hS hl
  intro k
  induction k with
  | zero =>
    intro i hi
    have e : i = tm T l := by omega
    subst e
    refine G_Md_usedBy_4 ⟨z_in (by omega) (by decide), fun _ => by rw [tUn_e hm]; exact h, fun c => absurd ?_ c⟩
    rw [tM_m hS hl, z_le (by omega) (by omega)]; omega
  | succ k ih =>
    intro i hi
    have hu := tu_lt hS.2 hl (show i < tm T l by omega)
    refine G_Md_usedBy_4 ⟨z_in (by omega) (by decide), fun c => absurd c ?_, fun c => ?_⟩
    · rw [tM_m hS hl, z_le (by omega) (by omega)]; omega
    · rw [z_2l, z_cl' (by omega), tM_u hS hl (by omega), z_shl _ (by omega), tUn_s hu, nI_1]
      exact ⟨z_in (by omega) (by decide), ih (i + 1) (by omega)⟩
theorem S_Md_usedBy {d l : Nat} {T : xT} {w : xWd} {Q : xMV → xWd → Prop} (hS : tS w T) (hl : l < tn T) (h : Q (xI (nI (tU T l))) w) : xWp d m_Md_usedBy 0 [xA 7 2, xI (nI l), xU, xU] [] w Q := by
  have := L_Md_usedBy (d := d) hS hl h (tm T l) 0 (Nat.zero_add _)
  rw [show tUn T l 0 = 0 from z_mk_0 8] at this
  exact G_Md_usedBy_0 this
theorem G_Md_isAboveOr_0 {d : Nat} {x1 : Int32} {x2 : Int32} {w : xWd} {Q : xMV → xWd → Prop} (h : ((x1 = x2 → Q (xI 1) w) ∧ (¬ (x1 = x2) → xWp d m_Md_isBelow 0 [xA 7 2, xI x1, xI x2, xU] [] w (fun a w' => xWp (d + 1) m_Md_isAboveOr 11 [xA 7 2, xI x1, xI x2] (x_pu a []) w' Q)))) : xWp (d + 1) m_Md_isAboveOr 0 [xA 7 2, xI x1, xI x2] [] w Q := by
  refine x_goN 3 (pc' := if x1 = x2 then 14 else 5) (ls' := [xA 7 2, xI x1, xI x2]) (st' := []) (w' := w) rfl ?_
  refine x_br (fun c1 => ?_) (fun c1 => ?_)
  · skip
    refine x_goN 2 (pc' := 19) (ls' := [xA 7 2, xI x1, xI x2]) (st' := [xI 1]) (w' := w) rfl ?_
    exact x_ret (P := (1 : Int32) = 0 ∨ (1 : Int32) = 1) rfl (by decide) (h.1 c1)
  · skip
    refine x_goN 3 (pc' := 8) (ls' := [xA 7 2, xI x1, xI x2]) (st' := [xI x2, xI x1, xA 7 2]) (w' := w) rfl ?_
    refine x_call (y := m_Md_isBelow) (as := [xA 7 2, xI x1, xI x2]) (rst := []) rfl [xA 7 2, xI x1, xI x2, xU] rfl ?_
    exact (h.2 c1)
theorem G_Md_isAboveOr_11 {d : Nat} {x1 : Int32} {x2 : Int32} {s0 : Int32} {w : xWd} {Q : xMV → xWd → Prop} (h : ((s0 = 0 → Q (xI 0) w) ∧ (¬ (s0 = 0) → Q (xI 1) w))) : xWp (d + 1) m_Md_isAboveOr 11 [xA 7 2, xI x1, xI x2] [xI s0] w Q := by
  refine x_goN 1 (pc' := if s0 = 0 then 18 else 14) (ls' := [xA 7 2, xI x1, xI x2]) (st' := []) (w' := w) rfl ?_
  refine x_br (fun c1 => ?_) (fun c1 => ?_)
  · skip
    refine x_goN 1 (pc' := 19) (ls' := [xA 7 2, xI x1, xI x2]) (st' := [xI 0]) (w' := w) rfl ?_
    exact x_ret (P := (0 : Int32) = 0 ∨ (0 : Int32) = 1) rfl (by decide) (h.1 c1)
  · skip
    refine x_goN 2 (pc' := 19) (ls' := [xA 7 2, xI x1, xI x2]) (st' := [xI 1]) (w' := w) rfl ?_
    exact x_ret (P := (1 : Int32) = 0 ∨ (1 : Int32) = 1) rfl (by decide) (h.2 c1)
theorem S_Md_isAboveOr {d l v : Nat} {T : xT} {w : xWd} {Q : xMV → xWd → Prop} (hS : tS w T) (hl : l < tn T) (hv : v < tn T) (h1 : (l = v ∨ tb T l v = true) → Q (xI 1) w) (h2 : ¬ (l = v ∨ tb T l v = true) → Q (xI 0) w) : xWp (d + 1) m_Md_isAboveOr 0 [xA 7 2, xI (nI l), xI (nI v)] [] w Q := by
  have h8 := tS_n8 hS
  refine G_Md_isAboveOr_0 ⟨fun c => h1 (Or.inl ((z_eq (by omega) (by omega)).mp c)), fun c => S_Md_isBelow hS hl (by omega) (fun p => ?_) (fun p => ?_)⟩
  · exact G_Md_isAboveOr_11 ⟨fun c => absurd c n_10, fun _ => h1 (Or.inr p)⟩
  · refine G_Md_isAboveOr_11 ⟨fun _ => h2 (fun q => ?_), fun c => absurd rfl c⟩
    rcases q with q | q
    · exact c ((z_eq (by omega) (by omega)).mpr q)
    · exact p q

