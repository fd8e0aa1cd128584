/-! LINES, as numbers: how many, kinds, aboves, how many used, used ones (2 places a line) -/
abbrev xT : Type := Nat × (Nat → Nat) × (Nat → Nat) × (Nat → Nat) × (Nat → Nat)
def tn (T : xT) : Nat := T.1
def tk (T : xT) : Nat → Nat := T.2.1
def ta (T : xT) : Nat → Nat := T.2.2.1
def tm (T : xT) : Nat → Nat := T.2.2.2.1
def tu (T : xT) : Nat → Nat := T.2.2.2.2
def t_bl (ab : Nat → Nat) : Nat → Nat → Nat → Bool
  | 0, _, _ => false
  | f + 1, l, v => decide (ab l < 8) && (decide (ab l = v) || t_bl ab f (ab l) v)
/-- line l is below v -/
def tb (T : xT) (l v : Nat) : Bool := t_bl (ta T) 8 l v
def t_dp (ab : Nat → Nat) : Nat → Nat → Nat
  | 0, _ => 0
  | f + 1, l => if ab l < 8 then t_dp ab f (ab l) + 1 else 0
def td (T : xT) (l : Nat) : Nat := t_dp (ta T) 8 l
/-- line l uses v -/
def tr (T : xT) (l v : Nat) : Bool := (decide (0 < tm T l) && decide (tu T (2 * l) = v)) || (decide (1 < tm T l) && decide (tu T (2 * l + 1) = v))
def tCh (T : xT) : Prop := tn T ≤ 8 ∧ ∀ l, l < tn T → (l = 0 → ta T l = 8) ∧ (0 < l → ta T l < l)
def tW (T : xT) : Prop := tCh T ∧ ∀ l, l < tn T → tk T l ≤ 2 ∧ tm T l ≤ 2 ∧ (∀ i, i < tm T l → tb T l (tu T (2 * l + i)) = true) ∧ (tm T l = 2 → tu T (2 * l) ≠ tu T (2 * l + 1))
theorem t_bl_s (ab : Nat → Nat) (f l v : Nat) : t_bl ab (f + 1) l v = (decide (ab l < 8) && (decide (ab l = v) || t_bl ab f (ab l) v)) := rfl
theorem t_dp_s (ab : Nat → Nat) (f l : Nat) : t_dp ab (f + 1) l = if ab l < 8 then t_dp ab f (ab l) + 1 else 0 := rfl
theorem t_bl_fuel {T : xT} (h : tCh T) : ∀ (f l v : Nat), l < tn T → l ≤ f → t_bl (ta T) f l v = t_bl (ta T) (f + 1) l v
  | 0, l, v, hl, hf => by
    have e : l = 0 := by omega
    subst e
    rw [t_bl_s, (h.2 0 hl).1 rfl]; rfl
  | f + 1, l, v, hl, hf => by
    rw [t_bl_s, t_bl_s]
    by_cases e : l = 0
    · subst e; rw [(h.2 0 hl).1 rfl]; rfl
    · have h1 := (h.2 l hl).2 (by omega)
      rw [t_bl_fuel h f (ta T l) v (by omega) (by omega)]
theorem t_dp_fuel {T : xT} (h : tCh T) : ∀ (f l : Nat), l < tn T → l ≤ f → t_dp (ta T) f l = t_dp (ta T) (f + 1) l
  | 0, l, hl, hf => by
    have e : l = 0 := by omega
    subst e
    rw [t_dp_s, (h.2 0 hl).1 rfl]; rfl
  | f + 1, l, hl, hf => by
    rw [t_dp_s, t_dp_s]
    by_cases e : l = 0
    · subst e; rw [(h.2 0 hl).1 rfl]; rfl
    · have h1 := (h.2 l hl).2 (by omega)
      rw [t_dp_fuel h f (ta T l) (by omega) (by omega)]
theorem tb_0 {T : xT} (h : tCh T) (h0 : 0 < tn T) (v : Nat) : tb T 0 v = false := by
  unfold tb; rw [t_bl_s, (h.2 0 h0).1 rfl]; rfl
theorem tb_s {T : xT} (h : tCh T) {l : Nat} (hl : l < tn T) (h0 : 0 < l) (v : Nat) : tb T l v = (decide (ta T l = v) || tb T (ta T l) v) := by
  have h1 := (h.2 l hl).2 h0
  have h2 := h.1
  unfold tb
  rw [t_bl_s, t_bl_fuel h 7 (ta T l) v (by omega) (by omega), decide_eq_true (show ta T l < 8 by omega), Bool.true_and]
theorem td_0 {T : xT} (h : tCh T) (h0 : 0 < tn T) : td T 0 = 0 := by
  unfold td; rw [t_dp_s, (h.2 0 h0).1 rfl]; rfl
theorem td_s {T : xT} (h : tCh T) {l : Nat} (hl : l < tn T) (h0 : 0 < l) : td T l = td T (ta T l) + 1 := by
  have h1 := (h.2 l hl).2 h0
  have h2 := h.1
  unfold td
  rw [t_dp_s, t_dp_fuel h 7 (ta T l) (by omega) (by omega), if_pos (show ta T l < 8 by omega)]
theorem tb_lt {T : xT} (h : tCh T) : ∀ (f l v : Nat), l ≤ f → l < tn T → tb T l v = true → v < l
  | 0, l, v, hf, hl, hb => by
    have e : l = 0 := by omega
    subst e
    rw [tb_0 h hl] at hb; cases hb
  | f + 1, l, v, hf, hl, hb => by
    by_cases e : l = 0
    · subst e; rw [tb_0 h hl] at hb; cases hb
    · have h1 := (h.2 l hl).2 (by omega)
      rw [tb_s h hl (by omega), Bool.or_eq_true] at hb
      rcases hb with hb | hb
      · have := of_decide_eq_true hb; omega
      · have := tb_lt h f (ta T l) v (by omega) (by omega) hb; omega
theorem tb_lt' {T : xT} (h : tCh T) {l v : Nat} (hl : l < tn T) (hb : tb T l v = true) : v < l := tb_lt h l l v (Nat.le_refl _) hl hb
theorem td_le {T : xT} (h : tCh T) : ∀ (f l : Nat), l ≤ f → l < tn T → td T l ≤ l
  | 0, l, hf, hl => by
    have e : l = 0 := by omega
    subst e
    rw [td_0 h hl]; exact Nat.le_refl _
  | f + 1, l, hf, hl => by
    by_cases e : l = 0
    · subst e; rw [td_0 h hl]; exact Nat.le_refl _
    · have h1 := (h.2 l hl).2 (by omega)
      rw [td_s h hl (by omega)]
      have := td_le h f (ta T l) (by omega) (by omega)
      omega
theorem td_lt8 {T : xT} (h : tCh T) {l : Nat} (hl : l < tn T) : td T l < 8 := by
  have := td_le h l l (Nat.le_refl _) hl
  have := h.1
  omega
/-- below, it stands deeper -/
theorem tb_td {T : xT} (h : tCh T) : ∀ (f l v : Nat), l ≤ f → l < tn T → tb T l v = true → td T v < td T l
  | 0, l, v, hf, hl, hb => by
    have e : l = 0 := by omega
    subst e
    rw [tb_0 h hl] at hb; cases hb
  | f + 1, l, v, hf, hl, hb => by
    by_cases e : l = 0
    · subst e; rw [tb_0 h hl] at hb; cases hb
    · have h1 := (h.2 l hl).2 (by omega)
      rw [tb_s h hl (by omega), Bool.or_eq_true] at hb
      rw [td_s h hl (by omega)]
      rcases hb with hb | hb
      · have e2 := of_decide_eq_true hb; rw [e2]; omega
      · have := tb_td h f (ta T l) v (by omega) (by omega) hb; omega
/-- the set of those that l is below; of those that it uses -/
def tO (T : xT) (l : Nat) : Nat := z_mk 8 (tb T l)
def tU (T : xT) (l : Nat) : Nat := z_mk 8 (tr T l)
theorem tO_lt (T : xT) (l : Nat) : tO T l < 256 := z_mk_lt8 (Nat.le_refl _) _
theorem tU_lt (T : xT) (l : Nat) : tU T l < 256 := z_mk_lt8 (Nat.le_refl _) _
theorem tO_tb (T : xT) (l : Nat) {v : Nat} (hv : v < 8) : (tO T l).testBit v = tb T l v := by
  unfold tO; rw [z_mk_tb, decide_eq_true hv, Bool.true_and]
theorem tU_tb (T : xT) (l : Nat) {v : Nat} (hv : v < 8) : (tU T l).testBit v = tr T l v := by
  unfold tU; rw [z_mk_tb, decide_eq_true hv, Bool.true_and]
/-- what a line uses stands above it -/
theorem tr_tb {T : xT} (h : tW T) {l v : Nat} (hl : l < tn T) (hr : tr T l v = true) : tb T l v = true := by
  obtain ⟨-, hm, hu, -⟩ := h.2 l hl
  unfold tr at hr
  rw [Bool.or_eq_true, Bool.and_eq_true, Bool.and_eq_true] at hr
  rcases hr with ⟨h1, h2⟩ | ⟨h1, h2⟩
  · have := hu 0 (of_decide_eq_true h1)
    rw [Nat.add_zero, of_decide_eq_true h2] at this
    exact this
  · have := hu 1 (of_decide_eq_true h1)
    rw [of_decide_eq_true h2] at this
    exact this
theorem tr_lt {T : xT} (h : tW T) {l v : Nat} (hl : l < tn T) (hr : tr T l v = true) : v < l := tb_lt' h.1 hl (tr_tb h hl hr)
/-! the class's tree t; the model's lines -/
def tC (w : xWd) (t : Nat) (T : xT) : Prop := w t 8 = nI (tn T) ∧ ∀ l, l < tn T → w (32 * t + 1) l = nI (tk T l) ∧ w (32 * t + 2) l = nI (ta T l) ∧ w (32 * t + 3) l = nI (tO T l) ∧ w (32 * t + 4) l = nI (td T l) ∧ w (32 * t + 5) l = nI (tm T l) ∧ (∀ i, i < tm T l → w (32 * t + 6) (2 * l + i) = nI (tu T (2 * l + i))) ∧ w (32 * t + 7) l = nI (tU T l)
def tM (w : xWd) (T : xT) : Prop := w 2 5 = nI (tn T) ∧ ∀ l, l < tn T → w 71 l = nI (tk T l) ∧ w 72 l = nI (ta T l) ∧ w 73 l = nI (tm T l) ∧ ∀ i, i < tm T l → w 74 (2 * l + i) = nI (tu T (2 * l + i))
/-! what is told of lines -/
def mUs (T : xT) (v : Nat) : Nat := z_mk (tn T) (fun l => tr T l v)
def ub (T : xT) (l v : Nat) : Bool := z_any (tn T) (fun m => tb T m l && tr T m v)
def mUb (T : xT) (l : Nat) : Nat := z_mk 8 (ub T l)
def mLv (T : xT) (l : Nat) : Nat := z_mk 8 (fun v => decide (v = l) || (tb T l v && ub T l v))
def cr (T : xT) (a b : Nat) : Bool := z_any (tn T) (fun l => (mLv T l).testBit a && (mLv T l).testBit b)
def mCr (T : xT) (v : Nat) : Nat := z_mk 8 (fun u => decide (u ≠ v) && cr T v u)
def tCo (T : xT) (v : Nat) : Nat := if tk T v = 2 then 2 * z_pc (mUs T v) else if tk T v = 1 then z_pc (mUs T v) + 1 else z_pc (mUs T v)
/-- the least of f where p, below k; 0: none (f is above 0 there) -/
def z_mn (p : Nat → Bool) (f : Nat → Nat) : Nat → Nat
  | 0 => 0
  | k + 1 => if p k then (if z_mn p f k = 0 then f k else min (z_mn p f k) (f k)) else z_mn p f k
theorem z_mn_s (p : Nat → Bool) (f : Nat → Nat) (k : Nat) : z_mn p f (k + 1) = if p k then (if z_mn p f k = 0 then f k else min (z_mn p f k) (f k)) else z_mn p f k := rfl
def tL (T : xT) (l v : Nat) : Nat := z_mn (fun m => tb T m l && tr T m v) (fun m => td T m - td T l) (tn T)
def luI (x : Nat) : Int32 := if x = 0 then -9 else nI x
theorem mUs_lt {T : xT} (h : tn T ≤ 8) (v : Nat) : mUs T v < 256 := z_mk_lt8 h _
theorem mUb_lt (T : xT) (l : Nat) : mUb T l < 256 := z_mk_lt8 (Nat.le_refl _) _
theorem mLv_lt (T : xT) (l : Nat) : mLv T l < 256 := z_mk_lt8 (Nat.le_refl _) _
theorem mCr_lt (T : xT) (l : Nat) : mCr T l < 256 := z_mk_lt8 (Nat.le_refl _) _
theorem mLv_tb (T : xT) (l : Nat) {v : Nat} (hv : v < 8) : (mLv T l).testBit v = (decide (v = l) || (tb T l v && ub T l v)) := by
  unfold mLv; rw [z_mk_tb, decide_eq_true hv, Bool.true_and]
theorem mLv_le {T : xT} (h : tCh T) {l v : Nat} (hl : l < tn T) (hb : (mLv T l).testBit v = true) : v ≤ l := by
  by_cases hv : v < 8
  · rw [mLv_tb T l hv, Bool.or_eq_true, Bool.and_eq_true] at hb
    rcases hb with hb | ⟨hb, -⟩
    · have := of_decide_eq_true hb; omega
    · have := tb_lt' h hl hb; omega
  · unfold mLv at hb
    rw [z_mk_tb, decide_eq_false hv] at hb
    cases hb
