/-! GROW: a line put on, its uses -/
def pN (T : xT) (x : Int32) : Prop := x = -9 ∨ pL T x
def pG (T : xT) (o x : Int32) : Prop := x = -9 ∨ x = o ∨ pB T o x
theorem G_Vp_isLineOrNone_0 {d : Nat} {x1 : Int32} {w : xWd} {Q : xMV → xWd → Prop} (h : ((x1 = (-9) → Q (xI 1) w) ∧ (¬ (x1 = (-9)) → ((p_lt x1 (w 34 8) → Q (xI 1) w) ∧ (¬ (p_lt x1 (w 34 8)) → Q (xI 0) w))))) : xWp (d + 1) m_Vp_isLineOrNone 0 [xA 6 1, xI x1] [] w Q := by
  refine x_goN 3 (pc' := if x1 = (-9) then 17 else 6) (ls' := [xA 6 1, xI x1]) (st' := []) (w' := w) rfl ?_
  refine x_br (fun c1 => ?_) (fun c1 => ?_)
  · skip
    refine x_goN 2 (pc' := 22) (ls' := [xA 6 1, xI x1]) (st' := [xI 1]) (w' := w) rfl ?_
    exact x_ret (P := (1 : Int32) = 0 ∨ (1 : Int32) = 1) rfl (by decide) (h.1 c1)
  · skip
    refine x_goN 3 (pc' := 11) (ls' := [xA 6 1, xI x1]) (st' := [xI x1, xA 5 34]) (w' := w) rfl ?_
    refine x_call (y := m_Tr_isLine) (as := [xA 5 34, xI x1]) (rst := []) rfl [xA 5 34, xI x1] rfl ?_
    refine S_Tr_isLine (fun c2 => ?_) (fun c2 => ?_)
    · skip
      refine x_goN 1 (pc' := if (1 : Int32) = (0 : Int32) then 21 else 17) (ls' := [xA 6 1, xI x1]) (st' := []) (w' := w) rfl ?_
      refine x_brF (by decide) ?_
      refine x_goN 2 (pc' := 22) (ls' := [xA 6 1, xI x1]) (st' := [xI 1]) (w' := w) rfl ?_
      exact x_ret (P := (1 : Int32) = 0 ∨ (1 : Int32) = 1) rfl (by decide) ((h.2 c1).1 c2)
    · skip
      refine x_goN 1 (pc' := if (0 : Int32) = (0 : Int32) then 21 else 17) (ls' := [xA 6 1, xI x1]) (st' := []) (w' := w) rfl ?_
      refine x_brT (by decide) ?_
      refine x_goN 1 (pc' := 22) (ls' := [xA 6 1, xI x1]) (st' := [xI 0]) (w' := w) rfl ?_
      exact x_ret (P := (0 : Int32) = 0 ∨ (0 : Int32) = 1) rfl (by decide) ((h.2 c1).2 c2)
theorem G_Vp_wouldBeBelow_0 {d : Nat} {T : xT} {x1 : Int32} {x2 : Int32} {w : xWd} {Q : xMV → xWd → Prop} (h : ((x2 = (-9) → Q (xI 1) w) ∧ (¬ (x2 = (-9)) → ((x2 = x1 → Q (xI 1) w) ∧ (¬ (x2 = x1) → ((tR w 34 T) ∧ ((pB T x1 x2 → Q (xI 1) w) ∧ (¬ (pB T x1 x2) → Q (xI 0) w)))))))) : xWp (d + 2) m_Vp_wouldBeBelow 0 [xA 6 1, xI x1, xI x2] [] w Q := by
  refine x_goN 3 (pc' := if x2 = (-9) then 23 else 6) (ls' := [xA 6 1, xI x1, xI x2]) (st' := []) (w' := w) rfl ?_
  refine x_br (fun c1 => ?_) (fun c1 => ?_)
  · skip
    refine x_goN 2 (pc' := 28) (ls' := [xA 6 1, xI x1, xI x2]) (st' := [xI 1]) (w' := w) rfl ?_
    exact x_ret (P := (1 : Int32) = 0 ∨ (1 : Int32) = 1) rfl (by decide) (h.1 c1)
  · skip
    refine x_goN 3 (pc' := if x2 = x1 then 23 else 11) (ls' := [xA 6 1, xI x1, xI x2]) (st' := []) (w' := w) rfl ?_
    refine x_br (fun c2 => ?_) (fun c2 => ?_)
    · skip
      refine x_goN 2 (pc' := 28) (ls' := [xA 6 1, xI x1, xI x2]) (st' := [xI 1]) (w' := w) rfl ?_
      exact x_ret (P := (1 : Int32) = 0 ∨ (1 : Int32) = 1) rfl (by decide) ((h.2 c1).1 c2)
    · skip
      refine x_goN 4 (pc' := 17) (ls' := [xA 6 1, xI x1, xI x2]) (st' := [xI x2, xI x1, xA 5 34]) (w' := w) rfl ?_
      refine x_call (y := m_Tr_isBelow) (as := [xA 5 34, xI x1, xI x2]) (rst := []) rfl [xA 5 34, xI x1, xI x2] rfl ?_
      refine S_Tr_isBelow ((h.2 c1).2 c2).1 (fun c3 => ?_) (fun c3 => ?_)
      · skip
        refine x_goN 1 (pc' := if (1 : Int32) = (0 : Int32) then 27 else 23) (ls' := [xA 6 1, xI x1, xI x2]) (st' := []) (w' := w) rfl ?_
        refine x_brF (by decide) ?_
        refine x_goN 2 (pc' := 28) (ls' := [xA 6 1, xI x1, xI x2]) (st' := [xI 1]) (w' := w) rfl ?_
        exact x_ret (P := (1 : Int32) = 0 ∨ (1 : Int32) = 1) rfl (by decide) (((h.2 c1).2 c2).2.1 c3)
      · skip
        refine x_goN 1 (pc' := if (0 : Int32) = (0 : Int32) then 27 else 23) (ls' := [xA 6 1, xI x1, xI x2]) (st' := []) (w' := w) rfl ?_
        refine x_brT (by decide) ?_
        refine x_goN 1 (pc' := 28) (ls' := [xA 6 1, xI x1, xI x2]) (st' := [xI 0]) (w' := w) rfl ?_
        exact x_ret (P := (0 : Int32) = 0 ∨ (0 : Int32) = 1) rfl (by decide) (((h.2 c1).2 c2).2.2 c3)
theorem S_isLineOrNone {d : Nat} {s : xS} {w : xWd} {Q : xMV → xWd → Prop} {x : Int32} (h : sC s w) (h1 : pN (s_T s) x → Q (xI 1) w) (h2 : ¬ pN (s_T s) x → Q (xI 0) w) : xWp (d + 1) m_Vp_isLineOrNone 0 [xA 6 1, xI x] [] w Q :=
  G_Vp_isLineOrNone_0 ⟨fun c => h1 (Or.inl c), fun c => ⟨fun c2 => h1 (Or.inr ((pL_C h).mp c2)), fun c2 => h2 (fun q => q.elim c (fun q => c2 ((pL_C h).mpr q)))⟩⟩
theorem S_wouldBeBelow {d : Nat} {s : xS} {w : xWd} {Q : xMV → xWd → Prop} {o x : Int32} (h : sC s w) (h1 : pG (s_T s) o x → Q (xI 1) w) (h2 : ¬ pG (s_T s) o x → Q (xI 0) w) : xWp (d + 2) m_Vp_wouldBeBelow 0 [xA 6 1, xI o, xI x] [] w Q :=
  G_Vp_wouldBeBelow_0 (T := s_T s) ⟨fun c => h1 (Or.inl c), fun c => ⟨fun c2 => h1 (Or.inr (Or.inl c2)), fun c2 => ⟨sC_R h, fun c3 => h1 (Or.inr (Or.inr c3)), fun c3 => h2 (fun q => q.elim c (fun q => q.elim c2 c3))⟩⟩⟩
/-- the last line uses x, too, where x is not none -/
def tUs (T : xT) (x : Int32) : xT := if x = -9 then T else tUse T x.toNatClampNeg
theorem tUs_9 (T : xT) : tUs T (-9) = T := if_pos rfl
theorem tUs_v {T : xT} {v : Nat} (hv : v < 8) : tUs T (nI v) = tUse T v := by
  unfold tUs
  rw [if_neg (fun q => z_n9 (by omega) q.symm), z_cl' (by omega)]
def pC (T : xT) (x : Int32) : Prop := x = -9 ∨ ∃ v, v < 8 ∧ x = nI v ∧ tCan T v
theorem S_useToo {d : Nat} {T : xT} {w : xWd} {Q : xMV → xWd → Prop} {x : Int32} (hR : tR w 34 T) (hx : pC T x) (h : ∀ (w' : xWd) (r : Int32), tR w' 34 (tUs T x) → fT 34 w w' → Q (xI r) w') : xWp (d + 2) m_Tr_useToo 0 [xA 5 34, xI x, xU] [] w Q := by
  refine S_Tr_useToo (by decide) hR (fun v w' e hc hR' hf => h w' 1 ?_ hf) (fun hn => h w 0 ?_ (fun _ _ _ => rfl))
  · have hv : v < 8 := by
      have h8 := tR_n8 hR
      have := tb_lt' hR.2.1 (l := tn T - 1) (by have := hc.1; omega) hc.2.1
      omega
    rw [e, tUs_v hv]; exact hR'
  · rcases hx with e | ⟨v, hv, e, hc⟩
    · rw [e, tUs_9]; exact hR
    · exact absurd ⟨v, e, hc⟩ hn
theorem tPut_bn {T : xT} {k o v : Nat} (h : tCh T) (hn : tn T < 8) (ho : o < tn T) : tb (tPut T k o) (tn T) v = (decide (o = v) || tb T o v) := by
  have hch := tPut_ch (k := k) h hn (Or.inr ho)
  rw [tb_s hch (l := tn T) (by rw [tPut_n]; omega) (by omega), tPut_an, tPut_b h ho]
theorem pC_1 {T : xT} {k o : Nat} {x : Int32} (h : tW T) (hn : tn T < 8) (ho : o < tn T) (hg : pG T (nI o) x) : pC (tPut T k o) x := by
  have key : ∀ v, (o = v ∨ tb T o v = true) → tCan (tPut T k o) v := fun v hv => by
    refine ⟨by rw [tPut_n]; omega, ?_, ?_, ?_⟩
    · rw [tPut_n, Nat.add_sub_cancel, tPut_bn h.1 hn ho, Bool.or_eq_true]
      exact hv.elim (fun e => Or.inl (decide_eq_true e)) Or.inr
    · rw [tPut_n, Nat.add_sub_cancel, tPut_mn]; decide
    · rw [tPut_n, Nat.add_sub_cancel, tPut_rn]
  rcases hg with e | e | ⟨a, b, e1, e2, ha, hb, hab⟩
  · exact Or.inl e
  · exact Or.inr ⟨o, by omega, e, key o (Or.inl rfl)⟩
  · have := (z_eq (by omega) (by omega)).mp e1
    subst this
    exact Or.inr ⟨b, by omega, e2, key b (Or.inr hab)⟩

