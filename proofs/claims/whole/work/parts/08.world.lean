/-! THE SMALL MACHINE'S WORLD ON THE HEAP -/
/-- the tables' numbers, where each cell lies, each array's class, the script, its length -/
abbrev xG : Type := va_G × (Nat → Nat) × (Nat → ClassId) × (Nat → Int32) × Nat
def x_ce (g : xG) (w : xWd) (q : Nat × Nat) : Nat × va_E := (g.2.1 q.1,
  if q.2 < 8 then .inr (q.2, (List.range (x_nf q.2)).map (fun j => match x_ft q.2 j with
    | none => Value.int (w q.1 j)
    | some _ => Value.ref (g.2.1 (x_gr q.2 q.1 j))))
  else if q.2 = 50 then .inl (g.2.2.1 q.1, 4, .inr (.inr (.inr (.inr (fun j => some (g.2.1 (x_gr 50 q.1 j)))))))
  else .inl (g.2.2.1 q.1, q.2 - 100, .inl (w q.1)))
def x_wl (g : xG) (w : xWd) : va_W := x_cells.map (x_ce g w)
def x_ty (g : xG) : List (ClassId × FieldType) := x_cells.filterMap (fun q => if q.2 < 8 then none else if q.2 = 50 then some (g.2.2.1 q.1, .object "ValuePlaces$Sheet") else some (g.2.2.1 q.1, .int))
def x_rv (g : xG) : xMV → Value
  | some (.inl v) => .int v
  | some (.inr (.inl v)) => .long v
  | some (.inr (.inr q)) => .ref (g.2.1 q.2)
  | none => .null
def x_vok : xMV → Prop
  | some (.inl _) => True
  | some (.inr (.inl _)) => True
  | some (.inr (.inr q)) => q = (51, 0) ∨ (q.2, q.1) ∈ x_cells
  | none => False
def x_nests : List Cond := [Cond.methodLinkNest "ValuePlaces$Tree" 54 ⟨"ValuePlaces", "inSet", "(II)Z"⟩ "ValuePlaces", Cond.methodLinkNest "ValuePlaces$Holding" 51 ⟨"ValuePlaces", "inSet", "(II)Z"⟩ "ValuePlaces", Cond.methodLinkNest "ValuePlaces$Moves" 62 ⟨"ValuePlaces", "inSet", "(II)Z"⟩ "ValuePlaces"]
def x_KW (g : xG) (s : State) : Prop := va_K g.1 x_cls (x_ty g) s ∧ ∀ q ∈ x_nests, va_Nw q s
theorem x_KW.warm {g : xG} {s U : State} (h : x_KW g s) (hW : s.WarmedH U.vm) : x_KW g U := by
  refine ⟨va_K.moved hW.alike h.1, fun q hq => ?_⟩
  have h1 := h.2 q hq
  simp only [x_nests, List.mem_cons, List.not_mem_nil, or_false] at hq
  rcases hq with rfl | rfl | rfl <;> exact va_Nw.warmM hW h1
theorem x_KW.same {g : xG} {s U : State} (h : x_KW g s) (hv : s.vm = U.vm) : x_KW g U := by
  refine ⟨va_K.moved (hv ▸ Vm.Alike.refl s.vm) h.1, fun q hq => ?_⟩
  have h1 := h.2 q hq
  simp only [x_nests, List.mem_cons, List.not_mem_nil, or_false] at hq
  rcases hq with rfl | rfl | rfl <;> exact va_Nw.same rfl hv h1
theorem x_cells_apart : ∀ i, i < x_cells.length → ∀ j, j < x_cells.length → (x_nth (0, 0) x_cells i).1 = (x_nth (0, 0) x_cells j).1 → i = j := by decide +kernel
theorem x_nth_get {α : Type} (d : α) : ∀ (l : List α) (i : Nat) (a : α), l[i]? = some a → i < l.length ∧ x_nth d l i = a
  | [], i, a, h => by simp at h
  | b :: r, 0, a, h => ⟨Nat.succ_pos _, Option.some.inj h⟩
  | b :: r, i + 1, a, h => by
    obtain ⟨h1, h2⟩ := x_nth_get d r i a (by simpa using h)
    exact ⟨Nat.succ_lt_succ h1, h2⟩
theorem x_cells_inj {i j : Nat} {p q : Nat × Nat} (hi : x_cells[i]? = some p) (hj : x_cells[j]? = some q) (h : p.1 = q.1) : i = j := by
  obtain ⟨a1, a2⟩ := x_nth_get (0, 0) _ _ _ hi
  obtain ⟨b1, b2⟩ := x_nth_get (0, 0) _ _ _ hj
  exact x_cells_apart i a1 j b1 (by rw [a2, b2]; exact h)
theorem x_cells_no : x_cells.all (fun q => decide (q.1 ≠ 0 ∧ q.1 ≠ 4 ∧ q.2 ≠ 51)) = true := by decide +kernel
theorem x_cell_ne {a c : Nat} (h : (a, c) ∈ x_cells) : a ≠ 0 ∧ a ≠ 4 ∧ c ≠ 51 := by
  have := List.all_eq_true.mp x_cells_no _ h
  simpa using this
theorem x_cells_fld : x_cells.all (fun q => (List.range (x_nf q.2)).all (fun y => match x_ft q.2 y with
  | none => true
  | some t => decide ((x_gr q.2 q.1 y, t) ∈ x_cells))) = true := by decide +kernel
theorem x_cell_fld {a c y t : Nat} (h : (a, c) ∈ x_cells) (hy : y < x_nf c) (ht : x_ft c y = some t) : (x_gr c a y, t) ∈ x_cells := by
  have h1 := List.all_eq_true.mp (List.all_eq_true.mp x_cells_fld _ h) y (List.mem_range.mpr hy)
  dsimp only at h1
  rw [ht] at h1
  simpa using h1
theorem x_cells_row : x_cells.all (fun q => (List.range 4).all (fun y => decide (q.2 = 50 → (x_gr 50 q.1 y, 3) ∈ x_cells))) = true := by decide +kernel
theorem x_cell_row {a y : Nat} (h : (a, 50) ∈ x_cells) (hy : y < 4) : (x_gr 50 a y, 3) ∈ x_cells := by
  have h1 := List.all_eq_true.mp (List.all_eq_true.mp x_cells_row _ h) y (List.mem_range.mpr hy)
  simpa using h1
theorem x_wl_at {g : xG} {w : xWd} {a c : Nat} (h : (a, c) ∈ x_cells) : ∃ k : Nat, x_cells[k]? = some (a, c) ∧ (x_wl g w)[k]? = some (x_ce g w (a, c)) := by
  obtain ⟨k, hk⟩ := List.mem_iff_getElem?.mp h
  exact ⟨k, hk, by unfold x_wl; rw [List.getElem?_map, hk]; rfl⟩
theorem x_ce_obj {g : xG} {w : xWd} {a c : Nat} (h : c < 8) : x_ce g w (a, c) = (g.2.1 a, .inr (c, (List.range (x_nf c)).map (fun j => match x_ft c j with
    | none => Value.int (w a j)
    | some _ => Value.ref (g.2.1 (x_gr c a j))))) := by
  unfold x_ce; dsimp only; rw [if_pos h]
theorem x_ce_arr {g : xG} {w : xWd} {a c : Nat} (h : 100 ≤ c) : x_ce g w (a, c) = (g.2.1 a, .inl (g.2.2.1 a, c - 100, .inl (w a))) := by
  unfold x_ce; dsimp only; rw [if_neg (by omega), if_neg (by omega)]
theorem x_ce_row {g : xG} {w : xWd} {a : Nat} : x_ce g w (a, 50) = (g.2.1 a, .inl (g.2.2.1 a, 4, .inr (.inr (.inr (.inr (fun j => some (g.2.1 (x_gr 50 a j)))))))) := by
  unfold x_ce; dsimp only; rw [if_neg (by omega), if_pos rfl]
theorem x_ce_off {g : xG} {w : xWd} {a : Nat} {f : Nat → Int32} {q : Nat × Nat} (h : q.1 ≠ a) : x_ce g (x_put w a f) q = x_ce g w q := by
  unfold x_ce x_put; simp only [if_neg h]
theorem x_wl_set {g : xG} {w : xWd} {a c k : Nat} {f : Nat → Int32} (hk : x_cells[k]? = some (a, c)) : (x_wl g w).set k (x_ce g (x_put w a f) (a, c)) = x_wl g (x_put w a f) := by
  apply List.ext_getElem?
  intro i
  unfold x_wl
  rw [List.getElem?_set]
  by_cases e : k = i
  · subst e
    have hl : k < (x_cells.map (x_ce g w)).length := by rw [List.length_map]; exact (List.getElem?_eq_some_iff.mp hk).1
    rw [if_pos rfl, if_pos hl, List.getElem?_map, hk]; rfl
  · rw [if_neg e, List.getElem?_map, List.getElem?_map]
    cases hi : x_cells[i]? with
    | none => rfl
    | some q =>
      have hq : q.1 ≠ a := fun h => e (x_cells_inj hk hi h.symm)
      show some (x_ce g w q) = some (x_ce g (x_put w a f) q)
      rw [x_ce_off hq]
theorem x_wl_D {g : xG} {w w' : xWd} {A : Nat → Prop} (h : va_D A (x_wl g w)) : va_D A (x_wl g w') := by
  have key : ∀ (k : Nat) (q : Nat × va_E), (x_wl g w')[k]? = some q → ∃ q0, (x_wl g w)[k]? = some q0 ∧ q0.1 = q.1 := by
    intro k q hk
    unfold x_wl at hk ⊢
    rw [List.getElem?_map] at hk ⊢
    cases hc : x_cells[k]? with
    | none => rw [hc] at hk; cases hk
    | some r =>
      rw [hc] at hk
      cases hk
      exact ⟨_, rfl, rfl⟩
  refine ⟨fun i j p q hi hj e => ?_, fun k q hk => ?_⟩
  · obtain ⟨p0, a1, a2⟩ := key i p hi
    obtain ⟨q0, b1, b2⟩ := key j q hj
    exact h.1 i j p0 q0 a1 b1 (by rw [a2, b2, e])
  · obtain ⟨q0, a1, a2⟩ := key k q hk
    rw [← a2]; exact h.2 k q0 a1
theorem x_wl_A {g : xG} {w w' : xWd} {sz q : Nat} (h : va_A (x_wl g w) sz q) : va_A (x_wl g w') sz q := by
  rcases h with ⟨k, e, hk⟩ | h
  · left
    unfold x_wl at hk ⊢
    rw [List.getElem?_map] at hk
    cases hc : x_cells[k]? with
    | none => rw [hc] at hk; cases hk
    | some r =>
      rw [hc] at hk
      have e1 : x_ce g w r = (q, e) := Option.some.inj hk
      have e2 : g.2.1 r.1 = q := congrArg Prod.fst e1
      exact ⟨k, (x_ce g w' r).2, by rw [List.getElem?_map, hc]; show some (x_ce g w' r) = _; rw [← e2]; rfl⟩
  · exact Or.inr h
theorem x_ty_arr {g : xG} {a c : Nat} (h : (a, c) ∈ x_cells) (hc : 100 ≤ c) : ∃ t : Nat, (x_ty g)[t]? = some (g.2.2.1 a, FieldType.int) := by
  refine List.mem_iff_getElem?.mp (List.mem_filterMap.mpr ⟨_, h, ?_⟩)
  dsimp only; rw [if_neg (by omega), if_neg (by omega)]
theorem x_ty_row {g : xG} {a : Nat} (h : (a, 50) ∈ x_cells) : ∃ t : Nat, (x_ty g)[t]? = some (g.2.2.1 a, FieldType.object "ValuePlaces$Sheet") := by
  refine List.mem_iff_getElem?.mp (List.mem_filterMap.mpr ⟨_, h, ?_⟩)
  dsimp only; rw [if_neg (by omega), if_pos rfl]
theorem x_fs_at {g : xG} {w : xWd} {a c y : Nat} (hy : y < x_nf c) : ((List.range (x_nf c)).map (fun j => match x_ft c j with
    | none => Value.int (w a j)
    | some _ => Value.ref (g.2.1 (x_gr c a j))))[y]? = some (x_rv g (x_fv c a y w)) := by
  rw [List.getElem?_map, List.getElem?_range hy]
  unfold x_fv
  cases h : x_ft c y <;> simp [h, x_rv]
theorem x_fs_set {g : xG} {w : xWd} {a c y : Nat} {v : Int32} (ht : x_ft c y = none) : ((List.range (x_nf c)).map (fun j => match x_ft c j with
    | none => Value.int (w a j)
    | some _ => Value.ref (g.2.1 (x_gr c a j)))).set y (.int v) = (List.range (x_nf c)).map (fun j => match x_ft c j with
    | none => Value.int ((x_set w a y v) a j)
    | some _ => Value.ref (g.2.1 (x_gr c a j))) := by
  apply List.ext_getElem?
  intro i
  rw [List.getElem?_set, List.getElem?_map, List.getElem?_map]
  by_cases e : y = i
  · subst e
    by_cases hl : y < x_nf c
    · rw [if_pos rfl, if_pos (by simpa using hl), List.getElem?_range hl]
      simp [ht, x_set, x_put, upd]
    · rw [if_pos rfl, if_neg (by simpa using hl), List.getElem?_eq_none (by simpa using hl)]; rfl
  · rw [if_neg e]
    cases hr : (List.range (x_nf c))[i]? with
    | none => rfl
    | some j =>
      have hj : j = i := by
        obtain ⟨h1, h2⟩ := List.getElem?_eq_some_iff.mp hr
        simpa using h2.symm
      subst hj
      have h1 : (x_set w a y v) a j = w a j := by simp [x_set, x_put, upd, Ne.symm e]
      simp [h1]
theorem x_cls_at : ∀ c, c < 8 → x_cls[c]? = some (x_cn c) ∧ (x_cn c).2.2 = x_nf c
  | 0, _ => ⟨rfl, rfl⟩ | 1, _ => ⟨rfl, rfl⟩ | 2, _ => ⟨rfl, rfl⟩ | 3, _ => ⟨rfl, rfl⟩ | 4, _ => ⟨rfl, rfl⟩ | 5, _ => ⟨rfl, rfl⟩ | 6, _ => ⟨rfl, rfl⟩ | 7, _ => ⟨rfl, rfl⟩
  | n + 8, h => absurd h (by omega)
theorem x_good {ws : List Cond} (h : ∀ w ∈ ws, w ∈ lw_tbl) (hg : ws.all goodWord = true) : ∀ w ∈ ws, w ∈ x_gw := fun w hw => x_gw_mem (h w hw) (List.all_eq_true.mp hg w hw)
theorem x_cls_in : ∀ c, c < 8 → ∀ w ∈ u_ws (x_cn c).1 (x_cn c).2.1 (x_cn c).2.2, w ∈ x_gw
  | 0, _ => x_good inX0 (by decide +kernel) | 1, _ => x_good inX1 (by decide +kernel) | 2, _ => x_good inX2 (by decide +kernel) | 3, _ => x_good inX3 (by decide +kernel)
  | 4, _ => x_good inX4 (by decide +kernel) | 5, _ => x_good inX5 (by decide +kernel) | 6, _ => x_good inX6 (by decide +kernel) | 7, _ => x_good inX7 (by decide +kernel)
  | n + 8, h => absurd h (by omega)
theorem x_cls_put : ∀ c, c < 8 → ∃ ty0 : Nat → FieldType, (∀ k, k < (x_cn c).2.2 → parseFieldDescriptor ((x_cn c).2.1 k).2.2.1 = some (ty0 k)) ∧ (∀ a, a < (x_cn c).2.2 → ∀ b, b < (x_cn c).2.2 → a ≠ b → ((x_cn c).2.1 a).2.1 ≠ ((x_cn c).2.1 b).2.1)
  | 0, _ => ⟨tyX0, tyX0_ok, nmX0⟩ | 1, _ => ⟨tyX1, tyX1_ok, nmX1⟩ | 2, _ => ⟨tyX2, tyX2_ok, nmX2⟩ | 3, _ => ⟨tyX3, tyX3_ok, nmX3⟩
  | 4, _ => ⟨tyX4, tyX4_ok, nmX4⟩ | 5, _ => ⟨tyX5, tyX5_ok, nmX5⟩ | 6, _ => ⟨tyX6, tyX6_ok, nmX6⟩ | 7, _ => ⟨tyX7, tyX7_ok, nmX7⟩
  | n + 8, h => absurd h (by omega)
/-! locals -/
def x_lvl (g : xG) (ls : List xMV) : List (Nat × Value) := (List.range ls.length).filterMap (fun j => match ls[j]? with
  | some (some u) => some (j, x_rv g (some u))
  | _ => none)
theorem x_lvl_mem {g : xG} {ls : List xMV} {j : Nat} {v : Value} : (j, v) ∈ x_lvl g ls ↔ ∃ u, ls[j]? = some (some u) ∧ v = x_rv g (some u) := by
  unfold x_lvl
  rw [List.mem_filterMap]
  constructor
  · rintro ⟨i, -, hi⟩
    cases h : ls[i]? with
    | none => rw [h] at hi; cases hi
    | some o =>
      cases o with
      | none => rw [h] at hi; cases hi
      | some u => rw [h] at hi; cases hi; exact ⟨u, h, rfl⟩
  · rintro ⟨u, h, rfl⟩
    exact ⟨j, List.mem_range.mpr (List.getElem?_eq_some_iff.mp h).1, by rw [h]⟩
def xLR (g : xG) (k : Nat) (ls : List xMV) (als : Array Slot) : Prop := ls.length = x_nl k ∧ als.size = x_nl k ∧ lv_wf als ∧ ∀ (i : Nat) (u : Int32 ⊕ (Int64 ⊕ (Nat × Nat))), ls[i]? = some (some u) → als[i]? = some (.val (x_rv g (some u))) ∧ x_vok (some u)
theorem xLR.has {g : xG} {k : Nat} {ls : List xMV} {als : Array Slot} (h : xLR g k ls als) : lv_has als (x_nl k) (x_lvl g ls) := by
  refine ⟨h.2.1, h.2.2.1, fun q hq => ?_⟩
  obtain ⟨u, h1, h2⟩ := x_lvl_mem.mp (show (q.1, q.2) ∈ x_lvl g ls from hq)
  rw [h2]; exact (h.2.2.2 _ _ h1).1
theorem x_rv_cat {g : xG} {u : Int32 ⊕ (Int64 ⊕ (Nat × Nat))} (h : (x_rv g (some u)).category = 2) : ∃ v, u = .inr (.inl v) := by
  rcases u with v | v | v
  · simp [x_rv, Value.category] at h
  · exact ⟨v, rfl⟩
  · simp [x_rv, Value.category] at h
theorem x_nlg_ok {g : xG} {ls : List xMV} {i j : Nat} {u : Int32 ⊕ (Int64 ⊕ (Nat × Nat))} (hn : x_nlg ls i = true) (hj : ls[j]? = some (some u)) (e : j + 1 = i) : ¬ (x_rv g (some u)).category = 2 := by
  intro hc
  obtain ⟨v, rfl⟩ := x_rv_cat hc
  subst e
  have hn : (match ls[j]? with
    | some (some (.inr (.inl _))) => false
    | _ => true) = true := hn
  rw [hj] at hn
  cases hn
theorem xLR.st1 {g : xG} {k i : Nat} {ls : List xMV} {als als' : Array Slot} {u : Int32 ⊕ (Int64 ⊕ (Nat × Nat))} (h : xLR g k ls als) (hn : x_nlg ls i = true) (hu : x_vok (some u)) (hi : i < x_nl k)
    (h' : lv_has als' (x_nl k) ((i, x_rv g (some u)) :: (x_lvl g ls).filter (fun q => !(q.1 == i) && !(q.1 + 1 == i && q.2.category == 2)))) : xLR g k (ls.set i (some u)) als' := by
  refine ⟨by rw [List.length_set]; exact h.1, h'.1, h'.2.1, fun j v hj => ?_⟩
  rw [List.getElem?_set] at hj
  by_cases e : i = j
  · subst e
    rw [if_pos rfl, if_pos (by rw [h.1]; exact hi)] at hj
    cases hj
    exact ⟨h'.2.2 _ List.mem_cons_self, hu⟩
  · rw [if_neg e] at hj
    refine ⟨?_, (h.2.2.2 _ _ hj).2⟩
    refine h'.2.2 (j, x_rv g (some v)) (List.mem_cons_of_mem _ (List.mem_filter.mpr ⟨x_lvl_mem.mpr ⟨v, hj, rfl⟩, ?_⟩))
    have h1 : (j == i) = false := by simpa using Ne.symm e
    have h2 : (j + 1 == i && (x_rv g (some v)).category == 2) = false := by
      by_cases e2 : j + 1 = i
      · have := x_nlg_ok (g := g) hn hj e2
        simp [this]
      · simp [e2]
    simp [h1, h2]
theorem xLR.st2 {g : xG} {k i : Nat} {ls : List xMV} {als als' : Array Slot} {u : Int32 ⊕ (Int64 ⊕ (Nat × Nat))} (h : xLR g k ls als) (hn : x_nlg ls i = true) (hu : x_vok (some u)) (hi : i + 1 < x_nl k)
    (h' : lv_has als' (x_nl k) ((i, x_rv g (some u)) :: (x_lvl g ls).filter (fun q => !(q.1 == i) && (!(q.1 == i + 1) && !(q.1 + 1 == i && q.2.category == 2))))) : xLR g k ((ls.set i (some u)).set (i + 1) none) als' := by
  refine ⟨by rw [List.length_set, List.length_set]; exact h.1, h'.1, h'.2.1, fun j v hj => ?_⟩
  rw [List.getElem?_set] at hj
  by_cases e1 : i + 1 = j
  · subst e1
    rw [if_pos rfl] at hj
    split at hj <;> cases hj
  rw [if_neg e1, List.getElem?_set] at hj
  by_cases e : i = j
  · subst e
    rw [if_pos rfl, if_pos (by rw [h.1]; omega)] at hj
    cases hj
    exact ⟨h'.2.2 _ List.mem_cons_self, hu⟩
  · rw [if_neg e] at hj
    refine ⟨?_, (h.2.2.2 _ _ hj).2⟩
    refine h'.2.2 (j, x_rv g (some v)) (List.mem_cons_of_mem _ (List.mem_filter.mpr ⟨x_lvl_mem.mpr ⟨v, hj, rfl⟩, ?_⟩))
    have h1 : (j == i) = false := by simpa using Ne.symm e
    have h3 : (j == i + 1) = false := by simpa using Ne.symm e1
    have h2 : (j + 1 == i && (x_rv g (some v)).category == 2) = false := by
      by_cases e2 : j + 1 = i
      · have := x_nlg_ok (g := g) hn hj e2
        simp [this]
      · simp [e2]
    simp [h1, h2, h3]
