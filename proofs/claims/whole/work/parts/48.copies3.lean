/-! COPIES: the model -/
def mMv (w : xWd) (n : Nat) (G : xGM) : Prop := w 2 24 = nI G.2.1 ∧ w 2 25 = nI G.2.2.1 ∧ (∀ p, p < n → w 87 p = nI (G.1 p)) ∧ ∀ j, j < G.2.1 → w 88 j = nI (G.2.2.2 j)
def fMv (w w' : xWd) : Prop := (∀ a, a ≠ 2 → a ≠ 87 → a ≠ 88 → w' a = w a) ∧ ∀ j, j ≠ 24 → j ≠ 25 → w' 2 j = w 2 j
theorem fMv_rf (w : xWd) : fMv w w := ⟨fun _ _ _ _ => rfl, fun _ _ _ => rfl⟩
theorem fMv_tr {w w1 w2 : xWd} (h : fMv w w1) (h2 : fMv w1 w2) : fMv w w2 := ⟨fun a a1 a2 a3 => (h2.1 a a1 a2 a3).trans (h.1 a a1 a2 a3), fun j j1 j2 => (h2.2 j j1 j2).trans (h.2 j j1 j2)⟩
theorem fMv_s {w w1 : xWd} {a j : Nat} {v : Int32} (ha : a = 87 ∨ a = 88) (e : w1 = x_set w a j v) : fMv w w1 := ⟨fun b b1 b2 b3 => by rw [e, x_set_o (by omega)], fun j _ _ => by rw [e, x_set_o (by omega)]⟩
theorem fMv_2 {w w1 : xWd} {j : Nat} {v : Int32} (hj : j = 24 ∨ j = 25) (e : w1 = x_set w 2 j v) : fMv w w1 := ⟨fun b b1 b2 b3 => by rw [e, x_set_o b1], fun i i1 i2 => by rw [e, x_set_s, upd_o (by omega)]⟩
theorem G_Md_isWanted_0 {d : Nat} {x1 : Int32} {x2 : Int32} {w : xWd} {Q : xMV → xWd → Prop} (h : xWp d m_Md_isWanted 2 [xA 7 2, xI x1, xI x2, xI 0] [] w Q) : xWp d m_Md_isWanted 0 [xA 7 2, xI x1, xI x2, xU] [] w Q := by
  refine x_goN 2 (pc' := 2) (ls' := [xA 7 2, xI x1, xI x2, xI 0]) (st' := []) (w' := w) rfl ?_
  exact h
theorem G_Md_isWanted_2 {d : Nat} {x1 : Int32} {x2 : Int32} {x3 : Int32} {w : xWd} {Q : xMV → xWd → Prop} (h : ((x2 ≤ x3 → Q (xI 0) w) ∧ (¬ (x2 ≤ x3) → ((x3 = x1 → xWp d m_Md_isWanted 2 [xA 7 2, xI x1, xI x2, xI (x3 + 1)] [] w Q) ∧ (¬ (x3 = x1) → (vp_in x3 9 ∧ ((w 87 x3.toNatClampNeg = x1 → Q (xI 1) w) ∧ (¬ (w 87 x3.toNatClampNeg = x1) → xWp d m_Md_isWanted 2 [xA 7 2, xI x1, xI x2, xI (x3 + 1)] [] w Q)))))))) : xWp d m_Md_isWanted 2 [xA 7 2, xI x1, xI x2, xI x3] [] w Q := by
  refine x_goN 3 (pc' := if x2 ≤ x3 then 30 else 7) (ls' := [xA 7 2, xI x1, xI x2, xI x3]) (st' := []) (w' := w) rfl ?_
  refine x_br (fun c1 => ?_) (fun c1 => ?_)
  · skip
    refine x_goN 1 (pc' := 31) (ls' := [xA 7 2, xI x1, xI x2, xI x3]) (st' := [xI 0]) (w' := w) rfl ?_
    exact x_ret (P := (0 : Int32) = 0 ∨ (0 : Int32) = 1) rfl (by decide) (h.1 c1)
  · skip
    refine x_goN 3 (pc' := if x3 = x1 then 24 else 12) (ls' := [xA 7 2, xI x1, xI x2, xI x3]) (st' := []) (w' := w) rfl ?_
    refine x_br (fun c2 => ?_) (fun c2 => ?_)
    · skip
      refine x_goN 2 (pc' := 2) (ls' := [xA 7 2, xI x1, xI x2, xI (x3 + 1)]) (st' := []) (w' := w) rfl ?_
      exact ((h.2 c1).1 c2)
    · skip
      refine x_goN 3 (pc' := 17) (ls' := [xA 7 2, xI x1, xI x2, xI x3]) (st' := [xI x3, xA 109 87]) (w' := w) rfl ?_
      refine x_ob (P := vp_in x3 9) (pc' := 18) (ls' := [xA 7 2, xI x1, xI x2, xI x3]) (st' := [xI (w 87 x3.toNatClampNeg)]) (w' := w) rfl ((h.2 c1).2 c2).1 ?_
      refine x_goN 2 (pc' := if w 87 x3.toNatClampNeg = x1 then 22 else 24) (ls' := [xA 7 2, xI x1, xI x2, xI x3]) (st' := []) (w' := w) rfl ?_
      refine x_br (fun c3 => ?_) (fun c3 => ?_)
      · skip
        refine x_goN 1 (pc' := 23) (ls' := [xA 7 2, xI x1, xI x2, xI x3]) (st' := [xI 1]) (w' := w) rfl ?_
        exact x_ret (P := (1 : Int32) = 0 ∨ (1 : Int32) = 1) rfl (by decide) (((h.2 c1).2 c2).2.1 c3)
      · skip
        refine x_goN 2 (pc' := 2) (ls' := [xA 7 2, xI x1, xI x2, xI (x3 + 1)]) (st' := []) (w' := w) rfl ?_
        exact (((h.2 c1).2 c2).2.2 c3)
theorem L_Md_isWanted {d n p : Nat} {g : Nat → Nat} {w : xWd} {Q : xMV → xWd → Prop} (hn : n ≤ 8) (hp : p < n) (hi : gIn n g) (hw : ∀ q, q < n → w 87 q = nI (g q)) (h1 : g_wn n g p = true → Q (xI 1) w) (h2 : ¬ g_wn n g p = true → Q (xI 0) w) : ∀ m t : Nat, t + m = n → (∀ q, q < t → ¬ (q ≠ p ∧ g q = p)) → xWp d m_Md_isWanted 2 [xA 7 2, xI (nI p), xI (nI n), xI (nI t)] [] w Q := by
  intro m
  induction m with
  | zero =>
    intro t ht hb
    have e : t = n := by omega
    subst e
    refine G_Md_isWanted_2 ⟨fun _ => h2 (fun hq => ?_), fun c => absurd ((z_le (by omega) (by omega)).mpr (Nat.le_refl _)) c⟩
    obtain ⟨q, hq, hh⟩ := (z_any_iff _ _).mp hq
    rw [Bool.and_eq_true] at hh
    have a := of_decide_eq_true hh.1
    have b := of_decide_eq_true hh.2
    exact hb q hq ⟨fun r => a (by rw [b, r]), b⟩
  | succ m ih =>
    intro t ht hb
    have hlt : t < n := by omega
    have hgt := hi t hlt
    refine G_Md_isWanted_2 ?_
    rw [z_cl' (by omega), hw t hlt, z_eq (show t < 2 ^ 31 by omega) (by omega), z_eq (show g t < 2 ^ 31 by omega) (by omega), nI_1]
    have next : ¬ (t ≠ p ∧ g t = p) → xWp d m_Md_isWanted 2 [xA 7 2, xI (nI p), xI (nI n), xI (nI (t + 1))] [] w Q := fun hs => by
      refine ih (t + 1) (by omega) (fun q hq => ?_)
      by_cases e : q = t
      · rw [e]; exact hs
      · exact hb q (by omega)
    refine ⟨fun c => absurd ((z_le (by omega) (by omega)).mp c) (by omega), fun _ => ⟨fun c => next (fun r => r.1 c), fun c => ⟨z_in (by omega) (by decide), fun c2 => h1 ?_, fun c2 => next (fun r => c2 r.2)⟩⟩⟩
    exact (z_any_iff _ _).mpr ⟨t, hlt, by rw [decide_eq_true c2, decide_eq_true (show g t ≠ t from fun r => c (by omega))]; rfl⟩
theorem S_Md_isWanted {d n p : Nat} {g : Nat → Nat} {w : xWd} {Q : xMV → xWd → Prop} (hn : n ≤ 8) (hp : p < n) (hi : gIn n g) (hw : ∀ q, q < n → w 87 q = nI (g q)) (h1 : g_wn n g p = true → Q (xI 1) w) (h2 : ¬ g_wn n g p = true → Q (xI 0) w) : xWp d m_Md_isWanted 0 [xA 7 2, xI (nI p), xI (nI n), xU] [] w Q :=
  G_Md_isWanted_0 (L_Md_isWanted hn hp hi hw h1 h2 n 0 (Nat.zero_add _) (fun q hq => absurd hq (Nat.not_lt_zero _)))
/-- the first of a set from j on, below n; n: none -/
def z_fm (m n j : Nat) : Nat := z_tzf m (n - j) j
theorem z_fm_n (m n : Nat) : z_fm m n n = n := by
  unfold z_fm; rw [Nat.sub_self]; rfl
theorem z_fm_s {m n i : Nat} (h : i < n) : z_fm m n i = if m.testBit i then i else z_fm m n (i + 1) := by
  unfold z_fm
  rw [show n - i = (n - (i + 1)) + 1 by omega]
  rfl
def fI (n r : Nat) : Int32 := if r = n then -9 else nI r
theorem fI_n (n : Nat) : fI n n = -9 := if_pos rfl
theorem fI_p {n r : Nat} (h : r < n) : fI n r = nI r := if_neg (by omega)
theorem G_Md_findMoves_0 {d : Nat} {x1 : Int32} {w : xWd} {Q : xMV → xWd → Prop} (h : (∀ w1 : xWd, w1 = x_set w 2 24 0 → (∀ w2 : xWd, w2 = x_set w1 2 25 0 → xWp (d + 1) m_Md_findMoves 12 [xA 7 2, xI x1, xI 1, xU, xU, xU, xU] [] w2 Q))) : xWp (d + 1) m_Md_findMoves 0 [xA 7 2, xI x1, xU, xU, xU, xU, xU] [] w Q := by
  refine x_goN 2 (pc' := 2) (ls' := [xA 7 2, xI x1, xU, xU, xU, xU, xU]) (st' := [xI 0, xA 7 2]) (w' := w) rfl ?_
  refine x_goW (pc' := 5) (ls' := [xA 7 2, xI x1, xU, xU, xU, xU, xU]) (st' := []) (w' := x_set w 2 24 0) rfl (fun w1 ew1 => ?_)
  refine x_goN 2 (pc' := 7) (ls' := [xA 7 2, xI x1, xU, xU, xU, xU, xU]) (st' := [xI 0, xA 7 2]) (w' := w1) rfl ?_
  refine x_goW (pc' := 10) (ls' := [xA 7 2, xI x1, xU, xU, xU, xU, xU]) (st' := []) (w' := x_set w1 2 25 0) rfl (fun w2 ew2 => ?_)
  refine x_goN 2 (pc' := 12) (ls' := [xA 7 2, xI x1, xI 1, xU, xU, xU, xU]) (st' := []) (w' := w2) rfl ?_
  exact ((h w1 ew1) w2 ew2)
theorem G_Md_findMoves_12 {d : Nat} {x1 : Int32} {x2 : Int32} {w : xWd} {Q : xMV → xWd → Prop} (h : ((x2 = 0 → Q xU w) ∧ (¬ (x2 = 0) → xWp (d + 1) m_Md_findMoves 28 [xA 7 2, xI x1, xI x2, xI (-9), xI (-9), xI (x1 - 1), xU] [] w Q))) : xWp (d + 1) m_Md_findMoves 12 [xA 7 2, xI x1, xI x2, xU, xU, xU, xU] [] w Q := by
  refine x_goN 2 (pc' := if x2 = 0 then 248 else 16) (ls' := [xA 7 2, xI x1, xI x2, xU, xU, xU, xU]) (st' := []) (w' := w) rfl ?_
  refine x_br (fun c1 => ?_) (fun c1 => ?_)
  · skip
    exact x_ret (P := True) rfl trivial (h.1 c1)
  · skip
    refine x_goN 8 (pc' := 28) (ls' := [xA 7 2, xI x1, xI x2, xI (-9), xI (-9), xI (x1 - 1), xU]) (st' := []) (w' := w) rfl ?_
    exact (h.2 c1)
theorem G_Md_findMoves_28 {d : Nat} {x1 : Int32} {x2 : Int32} {x3 : Int32} {x4 : Int32} {x5 : Int32} {w : xWd} {Q : xMV → xWd → Prop} (h : ((x5 < 0 → ((x4 = (-9) → ((x3 = (-9) → xWp (d + 1) m_Md_findMoves 12 [xA 7 2, xI x1, xI 0, xU, xU, xU, xU] [] w Q) ∧ (¬ (x3 = (-9)) → (vp_in x3 9 ∧ (vp_in (w 2 24) 20 ∧ ∀ w1 : xWd, w1 = x_set w 88 ((w 2 24).toNatClampNeg) ((10 * x3) + (w 87 x3.toNatClampNeg)) → (vp_in x3 9 ∧ ∀ w2 : xWd, w2 = x_set w1 87 x3.toNatClampNeg x3 → (∀ w3 : xWd, w3 = x_set w2 2 24 ((w2 2 24) + 1) → xWp (d + 1) m_Md_findMoves 12 [xA 7 2, xI x1, xI 0, xU, xU, xU, xU] [] w3 Q))))))) ∧ (¬ (x4 = (-9)) → ((x3 = (-9) → (vp_in (w 2 24) 20 ∧ ∀ w4 : xWd, w4 = x_set w 88 ((w 2 24).toNatClampNeg) ((10 * x1) + x4) → (∀ w5 : xWd, w5 = x_set w4 2 24 ((w4 2 24) + 1) → (∀ w6 : xWd, w6 = x_set w5 2 25 ((w5 2 25) + 1) → xWp (d + 1) m_Md_findMoves 196 [xA 7 2, xI x1, xI 1, xI x3, xI x4, xI 0, xU] [] w6 Q)))) ∧ (¬ (x3 = (-9)) → (vp_in x3 9 ∧ (vp_in (w 2 24) 20 ∧ ∀ w7 : xWd, w7 = x_set w 88 ((w 2 24).toNatClampNeg) ((10 * x3) + (w 87 x3.toNatClampNeg)) → (vp_in x3 9 ∧ ∀ w8 : xWd, w8 = x_set w7 87 x3.toNatClampNeg x3 → (∀ w9 : xWd, w9 = x_set w8 2 24 ((w8 2 24) + 1) → xWp (d + 1) m_Md_findMoves 12 [xA 7 2, xI x1, xI 1, xU, xU, xU, xU] [] w9 Q))))))))) ∧ (¬ (x5 < 0) → (vp_in x5 9 ∧ ((w 87 x5.toNatClampNeg = x5 → xWp (d + 1) m_Md_findMoves 28 [xA 7 2, xI x1, xI x2, xI x3, xI x4, xI (x5 + (-1)), xU] [] w Q) ∧ (¬ (w 87 x5.toNatClampNeg = x5) → xWp d m_Md_isWanted 0 [xA 7 2, xI x5, xI x1, xU] [] w (fun a w' => xWp (d + 1) m_Md_findMoves 78 [xA 7 2, xI x1, xI x2, xI x3, xI x5, xI x5, xI 1] (x_pu a []) w' Q))))))) : xWp (d + 1) m_Md_findMoves 28 [xA 7 2, xI x1, xI x2, xI x3, xI x4, xI x5, xU] [] w Q := by
  refine x_goN 2 (pc' := if x5 < 0 then 94 else 33) (ls' := [xA 7 2, xI x1, xI x2, xI x3, xI x4, xI x5, xU]) (st' := []) (w' := w) rfl ?_
  refine x_br (fun c1 => ?_) (fun c1 => ?_)
  · skip
    refine x_goN 3 (pc' := if x4 = (-9) then 105 else 101) (ls' := [xA 7 2, xI x1, xI x2, xI x3, xI x4, xI x5, xU]) (st' := []) (w' := w) rfl ?_
    refine x_br (fun c2 => ?_) (fun c2 => ?_)
    · skip
      refine x_goN 5 (pc' := if x3 = (-9) then 153 else 113) (ls' := [xA 7 2, xI x1, xI 0, xI x3, xI x4, xI x5, xU]) (st' := []) (w' := w) rfl ?_
      refine x_br (fun c3 => ?_) (fun c3 => ?_)
      · skip
        refine x_goN 2 (pc' := if (0 : Int32) = (0 : Int32) then 245 else 157) (ls' := [xA 7 2, xI x1, xI 0, xI x3, xI x4, xI x5, xU]) (st' := []) (w' := w) rfl ?_
        refine x_brT (by decide) ?_
        refine x_goN 1 (pc' := 12) (ls' := [xA 7 2, xI x1, xI 0, xI x3, xI x4, xI x5, xU]) (st' := []) (w' := w) rfl ?_
        exact x_weak ((((h.1 c1).1 c2).1 c3)) ⟨Or.inl rfl, Or.inl rfl, Or.inl rfl, Or.inr ⟨rfl, rfl⟩, Or.inr ⟨rfl, rfl⟩, Or.inr ⟨rfl, rfl⟩, Or.inl rfl, trivial⟩
      · skip
        refine x_goN 10 (pc' := 130) (ls' := [xA 7 2, xI x1, xI 0, xI x3, xI x4, xI x5, xU]) (st' := [xI x3, xA 109 87, xI (10 * x3), xI (w 2 24), xA 120 88]) (w' := w) rfl ?_
        refine x_ob (P := vp_in x3 9) (pc' := 131) (ls' := [xA 7 2, xI x1, xI 0, xI x3, xI x4, xI x5, xU]) (st' := [xI (w 87 x3.toNatClampNeg), xI (10 * x3), xI (w 2 24), xA 120 88]) (w' := w) rfl (((h.1 c1).1 c2).2 c3).1 ?_
        refine x_goN 1 (pc' := 132) (ls' := [xA 7 2, xI x1, xI 0, xI x3, xI x4, xI x5, xU]) (st' := [xI ((10 * x3) + (w 87 x3.toNatClampNeg)), xI (w 2 24), xA 120 88]) (w' := w) rfl ?_
        refine x_obW (P := vp_in (w 2 24) 20) (pc' := 133) (ls' := [xA 7 2, xI x1, xI 0, xI x3, xI x4, xI x5, xU]) (st' := []) (w' := x_set w 88 ((w 2 24).toNatClampNeg) ((10 * x3) + (w 87 x3.toNatClampNeg))) rfl (((h.1 c1).1 c2).2 c3).2.1 (fun w1 ew1 => ?_)
        refine x_goN 4 (pc' := 139) (ls' := [xA 7 2, xI x1, xI 0, xI x3, xI x4, xI x5, xU]) (st' := [xI x3, xI x3, xA 109 87]) (w' := w1) rfl ?_
        refine x_obW (P := vp_in x3 9) (pc' := 140) (ls' := [xA 7 2, xI x1, xI 0, xI x3, xI x4, xI x5, xU]) (st' := []) (w' := x_set w1 87 x3.toNatClampNeg x3) rfl ((((h.1 c1).1 c2).2 c3).2.2 w1 ew1).1 (fun w2 ew2 => ?_)
        refine x_goN 5 (pc' := 147) (ls' := [xA 7 2, xI x1, xI 0, xI x3, xI x4, xI x5, xU]) (st' := [xI ((w2 2 24) + 1), xA 7 2]) (w' := w2) rfl ?_
        refine x_goW (pc' := 150) (ls' := [xA 7 2, xI x1, xI 0, xI x3, xI x4, xI x5, xU]) (st' := []) (w' := x_set w2 2 24 ((w2 2 24) + 1)) rfl (fun w3 ew3 => ?_)
        refine x_goN 2 (pc' := 12) (ls' := [xA 7 2, xI x1, xI 0, xI x3, xI x4, xI x5, xU]) (st' := []) (w' := w3) rfl ?_
        exact x_weak (((((((h.1 c1).1 c2).2 c3).2.2 w1 ew1).2 w2 ew2) w3 ew3)) ⟨Or.inl rfl, Or.inl rfl, Or.inl rfl, Or.inr ⟨rfl, rfl⟩, Or.inr ⟨rfl, rfl⟩, Or.inr ⟨rfl, rfl⟩, Or.inl rfl, trivial⟩
    · skip
      refine x_goN 6 (pc' := if x3 = (-9) then 153 else 113) (ls' := [xA 7 2, xI x1, xI 1, xI x3, xI x4, xI x5, xU]) (st' := []) (w' := w) rfl ?_
      refine x_br (fun c4 => ?_) (fun c4 => ?_)
      · skip
        refine x_goN 2 (pc' := if (1 : Int32) = (0 : Int32) then 245 else 157) (ls' := [xA 7 2, xI x1, xI 1, xI x3, xI x4, xI x5, xU]) (st' := []) (w' := w) rfl ?_
        refine x_brF (by decide) ?_
        refine x_goN 9 (pc' := 172) (ls' := [xA 7 2, xI x1, xI 1, xI x3, xI x4, xI x5, xU]) (st' := [xI ((10 * x1) + x4), xI (w 2 24), xA 120 88]) (w' := w) rfl ?_
        refine x_obW (P := vp_in (w 2 24) 20) (pc' := 173) (ls' := [xA 7 2, xI x1, xI 1, xI x3, xI x4, xI x5, xU]) (st' := []) (w' := x_set w 88 ((w 2 24).toNatClampNeg) ((10 * x1) + x4)) rfl (((h.1 c1).2 c2).1 c4).1 (fun w4 ew4 => ?_)
        refine x_goN 5 (pc' := 180) (ls' := [xA 7 2, xI x1, xI 1, xI x3, xI x4, xI x5, xU]) (st' := [xI ((w4 2 24) + 1), xA 7 2]) (w' := w4) rfl ?_
        refine x_goW (pc' := 183) (ls' := [xA 7 2, xI x1, xI 1, xI x3, xI x4, xI x5, xU]) (st' := []) (w' := x_set w4 2 24 ((w4 2 24) + 1)) rfl (fun w5 ew5 => ?_)
        refine x_goN 5 (pc' := 190) (ls' := [xA 7 2, xI x1, xI 1, xI x3, xI x4, xI x5, xU]) (st' := [xI ((w5 2 25) + 1), xA 7 2]) (w' := w5) rfl ?_
        refine x_goW (pc' := 193) (ls' := [xA 7 2, xI x1, xI 1, xI x3, xI x4, xI x5, xU]) (st' := []) (w' := x_set w5 2 25 ((w5 2 25) + 1)) rfl (fun w6 ew6 => ?_)
        refine x_goN 2 (pc' := 196) (ls' := [xA 7 2, xI x1, xI 1, xI x3, xI x4, xI 0, xU]) (st' := []) (w' := w6) rfl ?_
        exact ((((((h.1 c1).2 c2).1 c4).2 w4 ew4) w5 ew5) w6 ew6)
      · skip
        refine x_goN 10 (pc' := 130) (ls' := [xA 7 2, xI x1, xI 1, xI x3, xI x4, xI x5, xU]) (st' := [xI x3, xA 109 87, xI (10 * x3), xI (w 2 24), xA 120 88]) (w' := w) rfl ?_
        refine x_ob (P := vp_in x3 9) (pc' := 131) (ls' := [xA 7 2, xI x1, xI 1, xI x3, xI x4, xI x5, xU]) (st' := [xI (w 87 x3.toNatClampNeg), xI (10 * x3), xI (w 2 24), xA 120 88]) (w' := w) rfl (((h.1 c1).2 c2).2 c4).1 ?_
        refine x_goN 1 (pc' := 132) (ls' := [xA 7 2, xI x1, xI 1, xI x3, xI x4, xI x5, xU]) (st' := [xI ((10 * x3) + (w 87 x3.toNatClampNeg)), xI (w 2 24), xA 120 88]) (w' := w) rfl ?_
        refine x_obW (P := vp_in (w 2 24) 20) (pc' := 133) (ls' := [xA 7 2, xI x1, xI 1, xI x3, xI x4, xI x5, xU]) (st' := []) (w' := x_set w 88 ((w 2 24).toNatClampNeg) ((10 * x3) + (w 87 x3.toNatClampNeg))) rfl (((h.1 c1).2 c2).2 c4).2.1 (fun w7 ew7 => ?_)
        refine x_goN 4 (pc' := 139) (ls' := [xA 7 2, xI x1, xI 1, xI x3, xI x4, xI x5, xU]) (st' := [xI x3, xI x3, xA 109 87]) (w' := w7) rfl ?_
        refine x_obW (P := vp_in x3 9) (pc' := 140) (ls' := [xA 7 2, xI x1, xI 1, xI x3, xI x4, xI x5, xU]) (st' := []) (w' := x_set w7 87 x3.toNatClampNeg x3) rfl ((((h.1 c1).2 c2).2 c4).2.2 w7 ew7).1 (fun w8 ew8 => ?_)
        refine x_goN 5 (pc' := 147) (ls' := [xA 7 2, xI x1, xI 1, xI x3, xI x4, xI x5, xU]) (st' := [xI ((w8 2 24) + 1), xA 7 2]) (w' := w8) rfl ?_
        refine x_goW (pc' := 150) (ls' := [xA 7 2, xI x1, xI 1, xI x3, xI x4, xI x5, xU]) (st' := []) (w' := x_set w8 2 24 ((w8 2 24) + 1)) rfl (fun w9 ew9 => ?_)
        refine x_goN 2 (pc' := 12) (ls' := [xA 7 2, xI x1, xI 1, xI x3, xI x4, xI x5, xU]) (st' := []) (w' := w9) rfl ?_
        exact x_weak (((((((h.1 c1).2 c2).2 c4).2.2 w7 ew7).2 w8 ew8) w9 ew9)) ⟨Or.inl rfl, Or.inl rfl, Or.inl rfl, Or.inr ⟨rfl, rfl⟩, Or.inr ⟨rfl, rfl⟩, Or.inr ⟨rfl, rfl⟩, Or.inl rfl, trivial⟩
  · skip
    refine x_goN 3 (pc' := 39) (ls' := [xA 7 2, xI x1, xI x2, xI x3, xI x4, xI x5, xU]) (st' := [xI x5, xA 109 87]) (w' := w) rfl ?_
    refine x_ob (P := vp_in x5 9) (pc' := 40) (ls' := [xA 7 2, xI x1, xI x2, xI x3, xI x4, xI x5, xU]) (st' := [xI (w 87 x5.toNatClampNeg)]) (w' := w) rfl (h.2 c1).1 ?_
    refine x_goN 2 (pc' := if w 87 x5.toNatClampNeg = x5 then 49 else 45) (ls' := [xA 7 2, xI x1, xI x2, xI x3, xI x4, xI x5, xU]) (st' := []) (w' := w) rfl ?_
    refine x_br (fun c5 => ?_) (fun c5 => ?_)
    · skip
      refine x_goN 4 (pc' := if (0 : Int32) = (0 : Int32) then 62 else 57) (ls' := [xA 7 2, xI x1, xI x2, xI x3, xI x4, xI x5, xI 0]) (st' := []) (w' := w) rfl ?_
      refine x_brT (by decide) ?_
      refine x_goN 4 (pc' := if (0 : Int32) = (0 : Int32) then 86 else 71) (ls' := [xA 7 2, xI x1, xI x2, xI x3, xI x4, xI x5, xI 0]) (st' := []) (w' := w) rfl ?_
      refine x_brT (by decide) ?_
      refine x_goN 4 (pc' := 28) (ls' := [xA 7 2, xI x1, xI x2, xI x3, xI x4, xI (x5 + (-1)), xI 0]) (st' := []) (w' := w) rfl ?_
      exact x_weak (((h.2 c1).2.1 c5)) ⟨Or.inl rfl, Or.inl rfl, Or.inl rfl, Or.inl rfl, Or.inl rfl, Or.inl rfl, Or.inr ⟨rfl, rfl⟩, trivial⟩
    · skip
      refine x_goN 5 (pc' := if (1 : Int32) = (0 : Int32) then 62 else 57) (ls' := [xA 7 2, xI x1, xI x2, xI x3, xI x4, xI x5, xI 1]) (st' := []) (w' := w) rfl ?_
      refine x_brF (by decide) ?_
      refine x_goN 5 (pc' := if (1 : Int32) = (0 : Int32) then 86 else 71) (ls' := [xA 7 2, xI x1, xI x2, xI x3, xI x5, xI x5, xI 1]) (st' := []) (w' := w) rfl ?_
      refine x_brF (by decide) ?_
      refine x_goN 3 (pc' := 75) (ls' := [xA 7 2, xI x1, xI x2, xI x3, xI x5, xI x5, xI 1]) (st' := [xI x1, xI x5, xA 7 2]) (w' := w) rfl ?_
      refine x_call (y := m_Md_isWanted) (as := [xA 7 2, xI x5, xI x1]) (rst := []) rfl [xA 7 2, xI x5, xI x1, xU] rfl ?_
      exact ((h.2 c1).2.2 c5)
theorem G_Md_findMoves_78 {d : Nat} {x1 : Int32} {x2 : Int32} {x3 : Int32} {x4 : Int32} {x5 : Int32} {x6 : Int32} {s0 : Int32} {w : xWd} {Q : xMV → xWd → Prop} (h : ((s0 = 0 → xWp (d + 1) m_Md_findMoves 28 [xA 7 2, xI x1, xI x2, xI x5, xI x4, xI (x5 + (-1)), xU] [] w Q) ∧ (¬ (s0 = 0) → xWp (d + 1) m_Md_findMoves 28 [xA 7 2, xI x1, xI x2, xI x3, xI x4, xI (x5 + (-1)), xU] [] w Q))) : xWp (d + 1) m_Md_findMoves 78 [xA 7 2, xI x1, xI x2, xI x3, xI x4, xI x5, xI x6] [xI s0] w Q := by
  refine x_goN 1 (pc' := if s0 = 0 then 81 else 86) (ls' := [xA 7 2, xI x1, xI x2, xI x3, xI x4, xI x5, xI x6]) (st' := []) (w' := w) rfl ?_
  refine x_br (fun c1 => ?_) (fun c1 => ?_)
  · skip
    refine x_goN 5 (pc' := 28) (ls' := [xA 7 2, xI x1, xI x2, xI x5, xI x4, xI (x5 + (-1)), xI x6]) (st' := []) (w' := w) rfl ?_
    exact x_weak ((h.1 c1)) ⟨Or.inl rfl, Or.inl rfl, Or.inl rfl, Or.inl rfl, Or.inl rfl, Or.inl rfl, Or.inr ⟨rfl, rfl⟩, trivial⟩
  · skip
    refine x_goN 4 (pc' := 28) (ls' := [xA 7 2, xI x1, xI x2, xI x3, xI x4, xI (x5 + (-1)), xI x6]) (st' := []) (w' := w) rfl ?_
    exact x_weak ((h.2 c1)) ⟨Or.inl rfl, Or.inl rfl, Or.inl rfl, Or.inl rfl, Or.inl rfl, Or.inl rfl, Or.inr ⟨rfl, rfl⟩, trivial⟩
theorem G_Md_findMoves_196 {d : Nat} {x1 : Int32} {x2 : Int32} {x3 : Int32} {x4 : Int32} {x5 : Int32} {w : xWd} {Q : xMV → xWd → Prop} (h : ((x1 ≤ x5 → xWp (d + 1) m_Md_findMoves 12 [xA 7 2, xI x1, xI x2, xU, xU, xU, xU] [] w Q) ∧ (¬ (x1 ≤ x5) → ((x5 = x4 → (vp_in x5 9 ∧ (vp_in x5 9 ∧ ∀ w1 : xWd, w1 = x_set w 87 x5.toNatClampNeg (w 87 x5.toNatClampNeg) → xWp (d + 1) m_Md_findMoves 196 [xA 7 2, xI x1, xI x2, xI x3, xI x4, xI (x5 + 1), xU] [] w1 Q))) ∧ (¬ (x5 = x4) → (vp_in x5 9 ∧ ((w 87 x5.toNatClampNeg = x4 → (vp_in x5 9 ∧ ∀ w2 : xWd, w2 = x_set w 87 x5.toNatClampNeg x1 → xWp (d + 1) m_Md_findMoves 196 [xA 7 2, xI x1, xI x2, xI x3, xI x4, xI (x5 + 1), xU] [] w2 Q)) ∧ (¬ (w 87 x5.toNatClampNeg = x4) → (vp_in x5 9 ∧ (vp_in x5 9 ∧ ∀ w3 : xWd, w3 = x_set w 87 x5.toNatClampNeg (w 87 x5.toNatClampNeg) → xWp (d + 1) m_Md_findMoves 196 [xA 7 2, xI x1, xI x2, xI x3, xI x4, xI (x5 + 1), xU] [] w3 Q)))))))))) : xWp (d + 1) m_Md_findMoves 196 [xA 7 2, xI x1, xI x2, xI x3, xI x4, xI x5, xU] [] w Q := by
  refine x_goN 3 (pc' := if x1 ≤ x5 then 245 else 202) (ls' := [xA 7 2, xI x1, xI x2, xI x3, xI x4, xI x5, xU]) (st' := []) (w' := w) rfl ?_
  refine x_br (fun c1 => ?_) (fun c1 => ?_)
  · skip
    refine x_goN 1 (pc' := 12) (ls' := [xA 7 2, xI x1, xI x2, xI x3, xI x4, xI x5, xU]) (st' := []) (w' := w) rfl ?_
    exact x_weak ((h.1 c1)) ⟨Or.inl rfl, Or.inl rfl, Or.inl rfl, Or.inr ⟨rfl, rfl⟩, Or.inr ⟨rfl, rfl⟩, Or.inr ⟨rfl, rfl⟩, Or.inl rfl, trivial⟩
  · skip
    refine x_goN 6 (pc' := if x5 = x4 then 231 else 215) (ls' := [xA 7 2, xI x1, xI x2, xI x3, xI x4, xI x5, xU]) (st' := [xI x5, xA 109 87]) (w' := w) rfl ?_
    refine x_br (fun c2 => ?_) (fun c2 => ?_)
    · skip
      refine x_goN 3 (pc' := 237) (ls' := [xA 7 2, xI x1, xI x2, xI x3, xI x4, xI x5, xU]) (st' := [xI x5, xA 109 87, xI x5, xA 109 87]) (w' := w) rfl ?_
      refine x_ob (P := vp_in x5 9) (pc' := 238) (ls' := [xA 7 2, xI x1, xI x2, xI x3, xI x4, xI x5, xU]) (st' := [xI (w 87 x5.toNatClampNeg), xI x5, xA 109 87]) (w' := w) rfl ((h.2 c1).1 c2).1 ?_
      refine x_obW (P := vp_in x5 9) (pc' := 239) (ls' := [xA 7 2, xI x1, xI x2, xI x3, xI x4, xI x5, xU]) (st' := []) (w' := x_set w 87 x5.toNatClampNeg (w 87 x5.toNatClampNeg)) rfl ((h.2 c1).1 c2).2.1 (fun w1 ew1 => ?_)
      refine x_goN 2 (pc' := 196) (ls' := [xA 7 2, xI x1, xI x2, xI x3, xI x4, xI (x5 + 1), xU]) (st' := []) (w' := w1) rfl ?_
      exact (((h.2 c1).1 c2).2.2 w1 ew1)
    · skip
      refine x_goN 3 (pc' := 221) (ls' := [xA 7 2, xI x1, xI x2, xI x3, xI x4, xI x5, xU]) (st' := [xI x5, xA 109 87, xI x5, xA 109 87]) (w' := w) rfl ?_
      refine x_ob (P := vp_in x5 9) (pc' := 222) (ls' := [xA 7 2, xI x1, xI x2, xI x3, xI x4, xI x5, xU]) (st' := [xI (w 87 x5.toNatClampNeg), xI x5, xA 109 87]) (w' := w) rfl ((h.2 c1).2 c2).1 ?_
      refine x_goN 2 (pc' := if w 87 x5.toNatClampNeg = x4 then 227 else 231) (ls' := [xA 7 2, xI x1, xI x2, xI x3, xI x4, xI x5, xU]) (st' := [xI x5, xA 109 87]) (w' := w) rfl ?_
      refine x_br (fun c3 => ?_) (fun c3 => ?_)
      · skip
        refine x_goN 2 (pc' := 238) (ls' := [xA 7 2, xI x1, xI x2, xI x3, xI x4, xI x5, xU]) (st' := [xI x1, xI x5, xA 109 87]) (w' := w) rfl ?_
        refine x_obW (P := vp_in x5 9) (pc' := 239) (ls' := [xA 7 2, xI x1, xI x2, xI x3, xI x4, xI x5, xU]) (st' := []) (w' := x_set w 87 x5.toNatClampNeg x1) rfl (((h.2 c1).2 c2).2.1 c3).1 (fun w2 ew2 => ?_)
        refine x_goN 2 (pc' := 196) (ls' := [xA 7 2, xI x1, xI x2, xI x3, xI x4, xI (x5 + 1), xU]) (st' := []) (w' := w2) rfl ?_
        exact ((((h.2 c1).2 c2).2.1 c3).2 w2 ew2)
      · skip
        refine x_goN 3 (pc' := 237) (ls' := [xA 7 2, xI x1, xI x2, xI x3, xI x4, xI x5, xU]) (st' := [xI x5, xA 109 87, xI x5, xA 109 87]) (w' := w) rfl ?_
        refine x_ob (P := vp_in x5 9) (pc' := 238) (ls' := [xA 7 2, xI x1, xI x2, xI x3, xI x4, xI x5, xU]) (st' := [xI (w 87 x5.toNatClampNeg), xI x5, xA 109 87]) (w' := w) rfl (((h.2 c1).2 c2).2.2 c3).1 ?_
        refine x_obW (P := vp_in x5 9) (pc' := 239) (ls' := [xA 7 2, xI x1, xI x2, xI x3, xI x4, xI x5, xU]) (st' := []) (w' := x_set w 87 x5.toNatClampNeg (w 87 x5.toNatClampNeg)) rfl (((h.2 c1).2 c2).2.2 c3).2.1 (fun w3 ew3 => ?_)
        refine x_goN 2 (pc' := 196) (ls' := [xA 7 2, xI x1, xI x2, xI x3, xI x4, xI (x5 + 1), xU]) (st' := []) (w' := w3) rfl ?_
        exact ((((h.2 c1).2 c2).2.2 c3).2.2 w3 ew3)
theorem L_Md_scan {d n : Nat} {g : Nat → Nat} {x2 : Int32} {w : xWd} {Q : xMV → xWd → Prop} (hn : n ≤ 8) (hi : gIn n g) (hw : ∀ q, q < n → w 87 q = nI (g q)) (K : xWp (d + 1) m_Md_findMoves 28 [xA 7 2, xI (nI n), xI x2, xI (fI n (z_fm (g_fr n g) n 0)), xI (fI n (z_fm (g_op n g) n 0)), xI (nI 0 - 1), xU] [] w Q) : ∀ j : Nat, j ≤ n → xWp (d + 1) m_Md_findMoves 28 [xA 7 2, xI (nI n), xI x2, xI (fI n (z_fm (g_fr n g) n j)), xI (fI n (z_fm (g_op n g) n j)), xI (nI j - 1), xU] [] w Q := by
  intro j
  induction j with
  | zero => intro _; exact K
  | succ i ih =>
    intro hj
    have ih' := ih (by omega)
    have hgi := hi i (by omega)
    rw [z_fm_s (show i < n by omega), z_fm_s (show i < n by omega)] at ih'
    rw [show nI (i + 1) - 1 = nI i from pk_sub (b := 1) (by omega)]
    have em : nI i + (-1) = nI i - 1 := (Int32.sub_eq_add_neg (a := nI i) (b := 1)).symm
    refine G_Md_findMoves_28 ⟨fun c => absurd c (z_neg (by omega)), fun _ => ⟨z_in (by omega) (by decide), ?_⟩⟩
    rw [z_cl' (by omega), hw i (by omega), z_eq (by omega) (by omega), em]
    refine ⟨fun c => ?_, fun c => S_Md_isWanted hn (by omega) hi hw (fun p => ?_) (fun p => ?_)⟩
    · have h1 : ¬ (g_fr n g).testBit i = true := fun q => by
        rw [g_fr_tb, Bool.and_eq_true, Bool.and_eq_true] at q
        exact of_decide_eq_true q.2.1 c
      have h2 : ¬ (g_op n g).testBit i = true := fun q => by
        rw [g_op_tb, Bool.and_eq_true] at q
        exact of_decide_eq_true q.2 c
      rw [if_neg h1, if_neg h2] at ih'
      exact ih'
    · have h1 : ¬ (g_fr n g).testBit i = true := fun q => by
        rw [g_fr_tb, Bool.and_eq_true, Bool.and_eq_true, Bool.not_eq_true', p] at q
        cases q.2.2
      have h2 : (g_op n g).testBit i = true := by
        rw [g_op_tb, decide_eq_true (show i < n by omega), decide_eq_true c]; rfl
      rw [if_neg h1, if_pos h2, fI_p (show i < n by omega)] at ih'
      refine G_Md_findMoves_78 ⟨fun c => absurd c n_10, fun _ => ?_⟩
      rw [em]; exact ih'
    · have h1 : (g_fr n g).testBit i = true := by
        rw [g_fr_tb, decide_eq_true (show i < n by omega), decide_eq_true c, Bool.eq_false_iff.mpr p]; rfl
      have h2 : (g_op n g).testBit i = true := by
        rw [g_op_tb, decide_eq_true (show i < n by omega), decide_eq_true c]; rfl
      rw [if_pos h1, if_pos h2, fI_p (show i < n by omega)] at ih'
      refine G_Md_findMoves_78 ⟨fun _ => ?_, fun c => absurd rfl c⟩
      rw [em]; exact ih'
theorem L_Md_spare {d n p : Nat} {g : Nat → Nat} {x2 x3 : Int32} {w0 : xWd} {Q : xMV → xWd → Prop} (hn : n ≤ 8) (hp : p < n) (hg : g p ≠ p) (hi : gIn n g) (h : ∀ w', (∀ a, a ≠ 87 → w' a = w0 a) → (∀ q, q < n → w' 87 q = nI (if g q = p then n else g q)) → xWp (d + 1) m_Md_findMoves 12 [xA 7 2, xI (nI n), xI x2, xU, xU, xU, xU] [] w' Q) : ∀ (m t : Nat) (w : xWd), t + m = n → (∀ a, a ≠ 87 → w a = w0 a) → (∀ q, q < n → w 87 q = nI (if q < t ∧ g q = p then n else g q)) → xWp (d + 1) m_Md_findMoves 196 [xA 7 2, xI (nI n), xI x2, xI x3, xI (nI p), xI (nI t), xU] [] w Q := by
  intro m
  induction m with
  | zero =>
    intro t w ht hf hv
    have e : t = n := by omega
    subst e
    refine G_Md_findMoves_196 ⟨fun _ => h w hf (fun q hq => ?_), fun c => absurd ((z_le (by omega) (by omega)).mpr (Nat.le_refl _)) c⟩
    rw [hv q hq]
    by_cases eq : g q = p
    · rw [if_pos ⟨hq, eq⟩, if_pos eq]
    · rw [if_neg (fun r => eq r.2), if_neg eq]
  | succ m ih =>
    intro t w ht hf hv
    have hlt : t < n := by omega
    have hgt := hi t hlt
    have hin : vp_in (nI t) 9 := z_in (by omega) (by decide)
    have hvt := hv t hlt
    rw [if_neg (by omega)] at hvt
    have skip : ¬ g t = p → ∀ w1, w1 = x_set w 87 t (nI (g t)) → xWp (d + 1) m_Md_findMoves 196 [xA 7 2, xI (nI n), xI x2, xI x3, xI (nI p), xI (nI t + 1), xU] [] w1 Q := by
      intro hs w1 e1
      rw [x_set_id hvt] at e1
      rw [nI_1, e1]
      refine ih (t + 1) w (by omega) hf (fun q hq => ?_)
      rw [hv q hq]
      by_cases eq : q = t
      · subst eq
        rw [if_neg (by omega), if_neg (fun r => hs r.2)]
      · by_cases e2 : q < t ∧ g q = p
        · rw [if_pos e2, if_pos ⟨by omega, e2.2⟩]
        · rw [if_neg e2, if_neg (fun r => e2 ⟨by omega, r.2⟩)]
    refine G_Md_findMoves_196 ?_
    rw [z_cl' (by omega), hvt, z_eq (show t < 2 ^ 31 by omega) (by omega), z_eq (show g t < 2 ^ 31 by omega) (by omega)]
    refine ⟨fun c => absurd ((z_le (by omega) (by omega)).mp c) (by omega), fun _ => ⟨fun c => ⟨hin, hin, fun w1 e1 => skip (fun r => hg (by rw [← c, r, c])) w1 e1⟩, fun c => ⟨hin, fun c2 => ⟨hin, fun w1 e1 => ?_⟩, fun c2 => ⟨hin, hin, fun w1 e1 => skip c2 w1 e1⟩⟩⟩⟩
    rw [nI_1]
    refine ih (t + 1) w1 (by omega) (fun a ha => by rw [e1, x_set_o ha]; exact hf a ha) (fun q hq => ?_)
    rw [e1, x_set_s]
    by_cases eq : q = t
    · rw [eq, upd_s, if_pos ⟨by omega, c2⟩]
    · rw [upd_o eq, hv q hq]
      by_cases e2 : q < t ∧ g q = p
      · rw [if_pos e2, if_pos ⟨by omega, e2.2⟩]
      · rw [if_neg e2, if_neg (fun r => e2 ⟨by omega, r.2⟩)]
theorem L_Md_findMoves {d n : Nat} {w0 : xWd} {Q : xMV → xWd → Prop} (hn : n ≤ 8) : ∀ (f : Nat) (G : xGM) (w : xWd), g_mu n G.1 ≤ f → G.2.1 + g_mu n G.1 ≤ 17 → gIn n G.1 → fMv w0 w → mMv w n G → (∀ w', fMv w0 w' → mMv w' n (g_run n f G) → Q xU w') → xWp (d + 1) m_Md_findMoves 12 [xA 7 2, xI (nI n), xI 1, xU, xU, xU, xU] [] w Q := by
  have fin0 : ∀ (G : xGM) (w : xWd), gIn n G.1 → mMv w n G → g_op n G.1 = 0 → Q xU w → xWp (d + 1) m_Md_findMoves 12 [xA 7 2, xI (nI n), xI 1, xU, xU, xU, xU] [] w Q := by
    intro G w hi hw ho hq
    have hf0 : g_fr n G.1 = 0 := by
      apply z_mk_e0
      intro j hj
      have := g_op_tb n G.1 j
      rw [ho, Nat.zero_testBit, decide_eq_true hj, Bool.true_and] at this
      rw [← this]; rfl
    refine G_Md_findMoves_12 ⟨fun c => absurd c n_10, fun _ => ?_⟩
    have key := L_Md_scan (d := d) (x2 := 1) (Q := Q) hn hi hw.2.2.1 ?_ n (Nat.le_refl _)
    · rw [z_fm_n, z_fm_n, fI_n] at key; exact key
    · have e1 : z_fm (g_op n G.1) n 0 = n := by rw [ho]; exact z_tz_b3 n (by omega)
      have e2 : z_fm (g_fr n G.1) n 0 = n := by rw [hf0]; exact z_tz_b3 n (by omega)
      rw [e1, e2, fI_n]
      exact G_Md_findMoves_28 ⟨fun _ => ⟨fun _ => ⟨fun _ => G_Md_findMoves_12 ⟨fun _ => hq, fun c => absurd rfl c⟩, fun c => absurd rfl c⟩, fun c => absurd rfl c⟩, fun c => absurd (by decide) c⟩
  intro f
  induction f with
  | zero =>
    intro G w hf hc hi hg hw h
    have ho : g_op n G.1 = 0 := by
      apply Classical.byContradiction
      intro ho
      have := g_mu_ge ho
      omega
    exact fin0 G w hi hw ho (h w hg hw)
  | succ f ih =>
    intro G w hf hc hi hg hw h
    by_cases ho : g_op n G.1 = 0
    · rw [g_run_0 ho] at h
      exact fin0 G w hi hw ho (h w hg hw)
    · rw [g_run_s ho] at h
      have hmu := g_mu_ge ho
      obtain ⟨s1, s2, s3⟩ := g_st_ok hn hi ho
      obtain ⟨o1, o2⟩ := g_op_p hn ho
      have eop : z_fm (g_op n G.1) n 0 = z_tz (g_op n G.1) := ((z_tz_b (show n < 9 by omega) (g_op_lt hn G.1) (z_mk_lt n _)).1 ho).1
      have n9o : ¬ nI (z_tz (g_op n G.1)) = -9 := fun q => z_n9 (n := z_tz (g_op n G.1)) (by omega) q.symm
      obtain ⟨a1, a2, a3, a4⟩ := id hw
      refine G_Md_findMoves_12 ⟨fun c => absurd c n_10, fun _ => ?_⟩
      have key := L_Md_scan (d := d) (x2 := 1) (Q := Q) hn hi hw.2.2.1 ?_ n (Nat.le_refl _)
      · rw [z_fm_n, z_fm_n, fI_n] at key; exact key
      rw [eop, fI_p o1]
      by_cases hz : g_fr n G.1 = 0
      · have efr : z_fm (g_fr n G.1) n 0 = n := by rw [hz]; exact z_tz_b3 n (by omega)
        rw [efr, fI_n]
        have est : g_st n G = g_sa n G (z_tz (g_op n G.1)) := if_pos hz
        refine G_Md_findMoves_28 ⟨fun _ => ⟨fun c => absurd c n9o, fun _ => ⟨fun _ => ?_, fun c => absurd rfl c⟩⟩, fun c => absurd (by decide) c⟩
        rw [a1]
        refine ⟨z_in (by omega) (by decide), fun w4 e4 w5 e5 w6 e6 => ?_⟩
        rw [z_cl' (by omega), show (10 : Int32) * nI n = nI (10 * n) from pk_mul 10 n, nI_add] at e4
        have k4 : w4 2 24 = nI G.2.1 := by rw [e4, x_set_o (by decide)]; exact a1
        rw [k4, nI_1] at e5
        have k5 : w5 2 25 = nI G.2.2.1 := by rw [e5, x_set_s, upd_o (by decide), e4, x_set_o (by decide)]; exact a2
        rw [k5, nI_1] at e6
        have k6 : w6 87 = w 87 := by rw [e6, x_set_o (by decide), e5, x_set_o (by decide), e4, x_set_o (by decide)]
        refine L_Md_spare hn o1 o2 hi (fun w7 f7 v7 => ?_) n 0 w6 (Nat.zero_add _) (fun _ _ => rfl) (fun q hq => by rw [if_neg (by omega), k6]; exact a3 q hq)
        refine ih (g_st n G) w7 (by omega) (by omega) s1 (fMv_tr hg ⟨fun a b1 b2 b3 => by rw [f7 a b2, e6, x_set_o b1, e5, x_set_o b1, e4, x_set_o b3], fun j j1 j2 => by rw [f7 2 (by decide), e6, x_set_s, upd_o j2, e5, x_set_s, upd_o j1, e4, x_set_o (by decide)]⟩) ?_ h
        rw [est]
        refine ⟨?_, ?_, v7, fun j hj => ?_⟩
        · rw [f7 2 (by decide), e6, x_set_s, upd_o (by decide), e5, x_set_s, upd_s]; rfl
        · rw [f7 2 (by decide), e6, x_set_s, upd_s]; rfl
        · have hj' : j < G.2.1 + 1 := hj
          show w7 88 j = nI (if j = G.2.1 then 10 * n + z_tz (g_op n G.1) else G.2.2.2 j)
          rw [f7 88 (by decide), e6, x_set_o (by decide), e5, x_set_o (by decide), e4, x_set_s]
          by_cases ej : j = G.2.1
          · rw [if_pos ej, ej, upd_s]
          · rw [if_neg ej, upd_o ej]; exact a4 j (by omega)
      · obtain ⟨p1, p2, p3⟩ := g_fr_p hn hz
        have efr : z_fm (g_fr n G.1) n 0 = z_tz (g_fr n G.1) := ((z_tz_b (show n < 9 by omega) (g_fr_lt hn G.1) (z_mk_lt n _)).1 hz).1
        rw [efr, fI_p p1]
        have n9f : ¬ nI (z_tz (g_fr n G.1)) = -9 := fun q => z_n9 (n := z_tz (g_fr n G.1)) (by omega) q.symm
        have est : g_st n G = g_fi G (z_tz (g_fr n G.1)) := if_neg hz
        have hin : vp_in (nI (z_tz (g_fr n G.1))) 9 := z_in (by omega) (by decide)
        refine G_Md_findMoves_28 ⟨fun _ => ⟨fun c => absurd c n9o, fun _ => ⟨fun c => absurd c n9f, fun _ => ?_⟩⟩, fun c => absurd (by decide) c⟩
        rw [a1, z_cl' (show z_tz (g_fr n G.1) < 2 ^ 31 by omega), a3 _ p1]
        refine ⟨hin, z_in (by omega) (by decide), fun w7 e7 => ⟨hin, fun w8 e8 w9 e9 => ?_⟩⟩
        rw [z_cl' (by omega), show (10 : Int32) * nI (z_tz (g_fr n G.1)) = nI (10 * z_tz (g_fr n G.1)) from pk_mul 10 _, nI_add] at e7
        have k8 : w8 2 24 = nI G.2.1 := by rw [e8, x_set_o (by decide), e7, x_set_o (by decide)]; exact a1
        rw [k8, nI_1] at e9
        refine ih (g_st n G) w9 (by omega) (by omega) s1 (fMv_tr hg ⟨fun a b1 b2 b3 => by rw [e9, x_set_o b1, e8, x_set_o b2, e7, x_set_o b3], fun j j1 j2 => by rw [e9, x_set_s, upd_o j1, e8, x_set_o (by decide), e7, x_set_o (by decide)]⟩) ?_ h
        rw [est]
        refine ⟨?_, ?_, fun q hq => ?_, fun j hj => ?_⟩
        · rw [e9, x_set_s, upd_s]; rfl
        · rw [e9, x_set_s, upd_o (by decide), e8, x_set_o (by decide), e7, x_set_o (by decide)]; exact a2
        · show w9 87 q = nI (if q = z_tz (g_fr n G.1) then z_tz (g_fr n G.1) else G.1 q)
          rw [e9, x_set_o (by decide), e8, x_set_s]
          by_cases eq : q = z_tz (g_fr n G.1)
          · rw [if_pos eq, eq, upd_s]
          · rw [if_neg eq, upd_o eq, e7, x_set_o (by decide)]; exact a3 q hq
        · have hj' : j < G.2.1 + 1 := hj
          show w9 88 j = nI (if j = G.2.1 then 10 * z_tz (g_fr n G.1) + G.1 (z_tz (g_fr n G.1)) else G.2.2.2 j)
          rw [e9, x_set_o (by decide), e8, x_set_o (by decide), e7, x_set_s]
          by_cases ej : j = G.2.1
          · rw [if_pos ej, ej, upd_s]
          · rw [if_neg ej, upd_o ej]; exact a4 j (by omega)

