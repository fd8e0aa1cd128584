/-! ONE STEP of the small machine is a step of the machine -/
abbrev xPt (g : xG) (A : Nat → Prop) (s : State) (w : xWd) (H : Heap) (locs : List Loc) : Prop := va_P g.1 x_cls (x_wl g w) H ∧ va_D A (x_wl g w) ∧ va_S A s.heap H locs ∧ w 0 = g.2.2.2.1 ∧ w 4 = (fun _ => nI g.2.2.2.2)
abbrev xSR (st : List xMV) : Prop := ∀ v ∈ st, x_vok v
def xW (g : xG) (A : Nat → Prop) (k : Nat) (p : Program) (l : Launch) (e : Env) (R : Room) (s : State) (m : MethodId) (args : Array Value) (below : List Frame) (meth : Method) (c : Code) (cells slots : Nat) (Q : State → Prop) (pc : Nat) (ls st : List xMV) (w : xWd) : Prop :=
  ∀ (H : Heap) (locs : List Loc) (als : Array Slot), xPt g A s w H locs → xLR g k ls als → xSR st → W p l e R s m args below meth c H locs cells slots Q (F0 m pc als (st.map (x_rv g)))
/-- what holds of the machine in a method of number k, with room for d calls -/
def xCx (g : xG) (A : Nat → Prop) (k d : Nat) (p : Program) (R : Room) (s : State) (m : MethodId) (args : Array Value) (c : Code) (cells slots : Nat) : Prop :=
  p.tables.exec = Jvm.exec ∧ c.code = (x_mt k).2.1 ∧ c.maxLocals = x_nl k ∧ s.vm.findClass (x_mt k).1.cls = some m.cls ∧ (∀ w ∈ x_gw, w.before args s = true) ∧ x_KW g s ∧ (∀ q, s.heap.size ≤ q → A q) ∧ (cells ≤ R.cells ∧ slots ≤ R.slots) ∧ (d ≤ R.frames ∧ 30 * d ≤ R.locals) ∧
  (k = 0 → va_X (g.2.1 0) g.2.2.2.2 g.2.2.2.1 s s.heap ∧ g.2.1 0 < s.heap.size ∧ ¬ A (g.2.1 0) ∧ g.2.2.2.2 < 2 ^ 31)
theorem x_p1_inv {st : List xMV} {f : Int32 → List xMV → Option xEff} {e : xEff} (h : x_p1 st f = some e) : ∃ b q, st = xI b :: q ∧ f b q = some e := by
  unfold x_p1 at h
  split at h
  · exact ⟨_, _, rfl, h⟩
  · cases h
theorem x_p2_inv {st : List xMV} {f : Int32 → Int32 → List xMV → Option xEff} {e : xEff} (h : x_p2 st f = some e) : ∃ a b q, st = xI b :: xI a :: q ∧ f a b q = some e := by
  unfold x_p2 at h
  split at h
  · exact ⟨_, _, _, rfl, h⟩
  · cases h
theorem x_q2_inv {st : List xMV} {f : Int64 → Int64 → List xMV → Option xEff} {e : xEff} (h : x_q2 st f = some e) : ∃ a b q, st = xJ b :: xJ a :: q ∧ f a b q = some e := by
  unfold x_q2 at h
  split at h
  · exact ⟨_, _, _, rfl, h⟩
  · cases h
theorem x_pa_inv {st : List xMV} {f : Nat → Nat → List xMV → Option xEff} {e : xEff} (h : x_pa st f = some e) : ∃ c a q, st = xA c a :: q ∧ f c a q = some e := by
  unfold x_pa at h
  split at h
  · exact ⟨_, _, _, rfl, h⟩
  · cases h
theorem x_ldI_inv {ls : List xMV} {i : Nat} {f : xMV → Option xEff} {e : xEff} (h : x_ldI ls i f = some e) : ∃ v, ls[i]? = some (xI v) ∧ f (xI v) = some e := by
  unfold x_ldI at h
  split at h
  · next h1 => exact ⟨_, h1, h⟩
  · cases h
theorem x_ldJ_inv {ls : List xMV} {i : Nat} {f : xMV → Option xEff} {e : xEff} (h : x_ldJ ls i f = some e) : ∃ v, ls[i]? = some (xJ v) ∧ f (xJ v) = some e := by
  unfold x_ldJ at h
  split at h
  · next h1 => exact ⟨_, h1, h⟩
  · cases h
theorem x_ldA_inv {ls : List xMV} {i : Nat} {f : xMV → Option xEff} {e : xEff} (h : x_ldA ls i f = some e) : ∃ c a, ls[i]? = some (xA c a) ∧ f (xA c a) = some e := by
  unfold x_ldA at h
  split at h
  · next h1 => exact ⟨_, _, h1, h⟩
  · cases h
theorem x_sto1_inv {i pc : Nat} {ls r : List xMV} {v : xMV} {w : xWd} {e : xEff} (h : x_sto1 i pc ls v r w = some e) : x_nlg ls i = true ∧ e = .inl (pc, ls.set i v, r, w) := by
  unfold x_sto1 at h
  cases hn : x_nlg ls i with
  | true => rw [hn] at h; cases h; exact ⟨rfl, rfl⟩
  | false => rw [hn] at h; cases h
theorem x_sto2_inv {i pc : Nat} {ls r : List xMV} {v : xMV} {w : xWd} {e : xEff} (h : x_sto2 i pc ls v r w = some e) : x_nlg ls i = true ∧ e = .inl (pc, (ls.set i v).set (i + 1) none, r, w) := by
  unfold x_sto2 at h
  cases hn : x_nlg ls i with
  | true => rw [hn] at h; cases h; exact ⟨rfl, rfl⟩
  | false => rw [hn] at h; cases h
theorem x_stI_inv {i pc : Nat} {ls st : List xMV} {w : xWd} {e : xEff} (h : x_stI i pc ls st w = some e) : ∃ v r, st = xI v :: r ∧ x_nlg ls i = true ∧ e = .inl (pc, ls.set i (xI v), r, w) := by
  unfold x_stI at h
  split at h
  · exact ⟨_, _, rfl, x_sto1_inv h⟩
  · cases h
theorem x_stA_inv {i pc : Nat} {ls st : List xMV} {w : xWd} {e : xEff} (h : x_stA i pc ls st w = some e) : ∃ c a r, st = xA c a :: r ∧ x_nlg ls i = true ∧ e = .inl (pc, ls.set i (xA c a), r, w) := by
  unfold x_stA at h
  split at h
  · exact ⟨_, _, _, rfl, x_sto1_inv h⟩
  · cases h
theorem x_stJ_inv {i pc : Nat} {ls st : List xMV} {w : xWd} {e : xEff} (h : x_stJ i pc ls st w = some e) : ∃ v r, st = xJ v :: r ∧ x_nlg ls i = true ∧ e = .inl (pc, (ls.set i (xJ v)).set (i + 1) none, r, w) := by
  unfold x_stJ at h
  split at h
  · exact ⟨_, _, rfl, x_sto2_inv h⟩
  · cases h
theorem x_bif {α : Type} {b : Bool} {x : Option α} {e : α} (h : (bif b then x else none) = some e) : b = true ∧ x = some e := by
  cases b with
  | true => exact ⟨rfl, h⟩
  | false => cases h
theorem xSR.tl {v : xMV} {st : List xMV} (h : xSR (v :: st)) : xSR st := fun u hu => h u (List.mem_cons_of_mem _ hu)
theorem xSR.cons {v : xMV} {st : List xMV} (h : xSR st) (hv : x_vok v) : xSR (v :: st) := by
  intro u hu
  rcases List.mem_cons.mp hu with rfl | hu
  · exact hv
  · exact h u hu
/-! switches -/
theorem x_ofInt {a : Int32} {k : Int} (h1 : -1000 ≤ k) (h2 : k ≤ 1000) : a = Int32.ofInt k ↔ a.toInt = k := by
  have e : (Int32.ofInt k).toInt = k := Int32.toInt_ofInt_of_le (by omega) (by omega)
  constructor
  · intro h; rw [h, e]
  · intro h; exact Int32.toInt_inj.mp (by rw [e]; exact h)
theorem x_tsl_out {a : Int32} {pc : Int} {d : Nat} : ∀ (offs : List Int) (lo : Int), -1000 ≤ lo → lo + offs.length ≤ 1001 → (a.toInt < lo ∨ lo + offs.length - 1 < a.toInt) → x_swt a (x_tsl pc lo offs) d = d
  | [], lo, _, _, _ => rfl
  | o :: r, lo, h1, h2, h => by
    have hl : ((o :: r).length : Int) = r.length + 1 := by simp
    rw [hl] at h2 h
    unfold x_tsl x_swt
    rw [if_neg (fun q => by have := (x_ofInt (a := a) h1 (by omega)).mp q; omega)]
    exact x_tsl_out r (lo + 1) (by omega) (by omega) (by omega)
theorem x_tsl_in {a : Int32} {pc : Int} {d : Nat} : ∀ (offs : List Int) (lo : Int), -1000 ≤ lo → lo + offs.length ≤ 1001 → ¬ a.toInt < lo → ¬ lo + offs.length - 1 < a.toInt → ∃ o, offs[(a.toInt - lo).toNat]? = some o ∧ x_swt a (x_tsl pc lo offs) d = (pc + o).toNat
  | [], lo, h1, h2, h3, h4 => by simp at h4; omega
  | o :: r, lo, h1, h2, h3, h4 => by
    have hl : ((o :: r).length : Int) = r.length + 1 := by simp
    rw [hl] at h2 h4
    by_cases e : a.toInt = lo
    · refine ⟨o, ?_, ?_⟩
      · rw [e, Int.sub_self]; rfl
      · unfold x_tsl x_swt
        rw [if_pos ((x_ofInt (a := a) h1 (by omega)).mpr e)]
    · obtain ⟨o1, a1, a2⟩ := x_tsl_in (a := a) (pc := pc) (d := d) r (lo + 1) (by omega) (by omega) (by omega) (by omega)
      refine ⟨o1, ?_, ?_⟩
      · rw [show (a.toInt - lo).toNat = (a.toInt - (lo + 1)).toNat + 1 by omega, List.getElem?_cons_succ]
        exact a1
      · unfold x_tsl x_swt
        rw [if_neg (fun q => e ((x_ofInt (a := a) h1 (by omega)).mp q))]
        exact a2
theorem x_psl_t {a : Int32} {pc d : Int} (hd : 0 ≤ pc + d) : ∀ (ps : List (Int × Int)), (∀ o ∈ ps, 0 ≤ pc + o.2 ∧ -1000 ≤ o.1 ∧ o.1 ≤ 1000) → pc + Op.lookupswitch.offset ps d a.toInt = (x_swt a (x_psl pc ps) (pc + d).toNat : Int)
  | [], _ => by
    rw [Op.lookupswitch.offset_nil]
    unfold x_psl x_swt
    omega
  | (k, o) :: r, h => by
    have h1 := h (k, o) List.mem_cons_self
    have ih := x_psl_t (a := a) hd r (fun q hq => h q (List.mem_cons_of_mem _ hq))
    rw [Op.lookupswitch.offset_cons]
    unfold x_psl x_swt
    by_cases e : a.toInt = k
    · rw [if_pos e.symm, if_pos ((x_ofInt h1.2.1 h1.2.2).mpr e)]
      have := h1.1
      dsimp only at this ⊢
      omega
    · rw [if_neg (fun q => e q.symm), if_neg (fun q => e ((x_ofInt h1.2.1 h1.2.2).mp q))]
      exact ih
theorem x_gwW {z : Nat} {w : Cond} {args : Array Value} {s : State} (hts : ∀ w ∈ x_gw, w.before args s = true) (h : lw_tbl[z]? = some w) (hg : goodWord w = true) : w.before args s = true := hts w (x_gw_mem (List.mem_of_getElem? h) hg)
theorem x_g_inv {pc : Nat} {ls st : List xMV} {w : xWd} {e : xEff} (h : x_g pc ls st w = some e) : e = .inl (pc, ls, st, w) := (Option.some.inj h).symm
theorem x_o_inv {P : Prop} {pc : Nat} {ls st : List xMV} {w : xWd} {e : xEff} (h : x_o P pc ls st w = some e) : e = .inr (.inl (P, pc, ls, st, w)) := (Option.some.inj h).symm
theorem x_s1 {v u : xMV} {st : List xMV} (h : xSR (u :: st)) (hv : x_vok v) : xSR (v :: st) := xSR.cons (xSR.tl h) hv
theorem x_s2 {v u u' : xMV} {st : List xMV} (h : xSR (u :: u' :: st)) (hv : x_vok v) : xSR (v :: st) := xSR.cons (xSR.tl (xSR.tl h)) hv
theorem x_vokA {c a : Nat} (h : x_vok (xA c a)) (hc : c ≠ 51) : (a, c) ∈ x_cells := by
  rcases h with h | h
  · exact absurd (congrArg Prod.fst h) hc
  · exact h
theorem x_put_scr {w : xWd} {a : Nat} {f : Nat → Int32} (h0 : a ≠ 0) (h4 : a ≠ 4) : (x_put w a f) 0 = w 0 ∧ (x_put w a f) 4 = w 4 := ⟨if_neg (Ne.symm h0), if_neg (Ne.symm h4)⟩
theorem x_put_self {w : xWd} {a : Nat} {f : Nat → Int32} : (x_put w a f) a = f := if_pos rfl
theorem x_beq {a b : Nat} (h : Nat.beq a b = true) : a = b := Nat.eq_of_beq_eq_true h
theorem x_ble {a b : Nat} (h : Nat.ble a b = true) : a ≤ b := Nat.le_of_ble_eq_true h
theorem x_pf_inv {x y pc : Nat} {ls st : List xMV} {w : xWd} {e : xEff} (h : x_pf x y pc ls st w = some e) : ∃ v a r, st = xI v :: xA x a :: r ∧ x_ft x y = none ∧ ((x_fz x y = true ∧ e = .inr (.inl (v = 0 ∨ v = 1, pc + 3, ls, r, x_set w a y v))) ∨ (x_fz x y = false ∧ e = .inl (pc + 3, ls, r, x_set w a y v))) := by
  unfold x_pf at h
  split at h
  · rename_i v q r
    obtain ⟨hc, h⟩ := x_bif h
    obtain ⟨c, a⟩ := q
    have hc : c = x := x_beq hc
    subst hc
    split at h
    · rename_i hf
      refine ⟨v, a, r, rfl, hf, ?_⟩
      cases hz : x_fz c y with
      | true => rw [hz] at h; exact Or.inl ⟨rfl, x_o_inv h⟩
      | false => rw [hz] at h; exact Or.inr ⟨rfl, x_g_inv h⟩
    · cases h
  · cases h
theorem x_iald_inv {n pc : Nat} {ls st : List xMV} {w : xWd} {e : xEff} (h : x_iald n pc ls st w = some e) : ∃ i c a r, st = xI i :: xA c a :: r ∧ ((c = 51 ∧ e = .inr (.inl (n = 0 ∧ vp_in i (w 4 0).toNatClampNeg, pc + 1, ls, xI (w a i.toNatClampNeg) :: r, w))) ∨ (100 ≤ c ∧ e = .inr (.inl (vp_in i (c - 100), pc + 1, ls, xI (w a i.toNatClampNeg) :: r, w)))) := by
  unfold x_iald at h
  split at h
  · rename_i i q r
    obtain ⟨c, a⟩ := q
    refine ⟨i, c, a, r, rfl, ?_⟩
    cases hc : Nat.beq c 51 with
    | true => rw [hc] at h; exact Or.inl ⟨x_beq hc, x_o_inv h⟩
    | false => rw [hc] at h; obtain ⟨h1, h⟩ := x_bif h; exact Or.inr ⟨x_ble h1, x_o_inv h⟩
  · cases h
theorem x_iast_inv {pc : Nat} {ls st : List xMV} {w : xWd} {e : xEff} (h : x_iast pc ls st w = some e) : ∃ v i c a r, st = xI v :: xI i :: xA c a :: r ∧ 100 ≤ c ∧ e = .inr (.inl (vp_in i (c - 100), pc + 1, ls, r, x_set w a i.toNatClampNeg v)) := by
  unfold x_iast at h
  split at h
  · rename_i v i q r
    obtain ⟨c, a⟩ := q
    obtain ⟨h1, h⟩ := x_bif h
    exact ⟨v, i, c, a, r, rfl, x_ble h1, x_o_inv h⟩
  · cases h
theorem x_aald_inv {pc : Nat} {ls st : List xMV} {w : xWd} {e : xEff} (h : x_aald pc ls st w = some e) : ∃ i a r, st = xI i :: xA 50 a :: r ∧ e = .inr (.inl (vp_in i 4, pc + 1, ls, xA 3 (x_gr 50 a i.toNatClampNeg) :: r, w)) := by
  unfold x_aald at h
  split at h
  · rename_i i q r
    obtain ⟨c, a⟩ := q
    obtain ⟨h1, h⟩ := x_bif h
    have h1 : c = 50 := x_beq h1
    subst h1
    exact ⟨i, a, r, rfl, x_o_inv h⟩
  · cases h
theorem x_ist_inv {d x y pc : Nat} {ls st : List xMV} {w : xWd} {e : xEff} (h : x_ist d x y pc ls st w = some e) :
    (x = 9999 ∧ ∃ n dp c1 a1 sp c0 a0, st = [xI n, xI dp, xA c1 a1, xI sp, xA c0 a0] ∧ e = .inr (.inl ((1 ≤ d ∧ 100 ≤ c0 ∧ 100 ≤ c1 ∧ ¬ sp < 0 ∧ ¬ dp < 0 ∧ ¬ n < 0 ∧ sp.toNatClampNeg + n.toNatClampNeg ≤ c0 - 100 ∧ dp.toNatClampNeg + n.toNatClampNeg ≤ c1 - 100), pc + 3, ls, [], x_put w a1 (va_cpy (w a0) (w a1) sp.toNatClampNeg dp.toNatClampNeg n.toNatClampNeg)))) ∨
    (x = 9998 ∧ ∃ a b r, st = xI b :: xI a :: r ∧ x_catS r ≤ 8 ∧ e = .inr (.inl (1 ≤ d, pc + 3, ls, xI (if a < b then b else a) :: r, w))) ∨
    (x = 9997 ∧ ∃ a b r, st = xI b :: xI a :: r ∧ x_catS r ≤ 8 ∧ e = .inr (.inl (1 ≤ d, pc + 3, ls, xI (if b < a then b else a) :: r, w))) ∨
    (∃ q, e = .inr (.inr q)) := by
  unfold x_ist at h
  cases h1 : Nat.beq x 9999 with
  | true =>
    rw [h1] at h
    left
    refine ⟨x_beq h1, ?_⟩
    dsimp only [cond_true] at h
    split at h
    · rename_i n dp q1 sp q0
      obtain ⟨c1, a1⟩ := q1
      obtain ⟨c0, a0⟩ := q0
      exact ⟨n, dp, c1, a1, sp, c0, a0, rfl, x_o_inv h⟩
    · cases h
  | false =>
    rw [h1] at h
    right
    cases h2 : Nat.beq x 9998 with
    | true =>
      rw [h2] at h
      left
      refine ⟨x_beq h2, ?_⟩
      dsimp only [cond_true, cond_false] at h
      obtain ⟨a, b, r, e1, h⟩ := x_p2_inv h
      obtain ⟨h3, h⟩ := x_bif h
      exact ⟨a, b, r, e1, x_ble h3, x_o_inv h⟩
    | false =>
      rw [h2] at h
      right
      cases h4 : Nat.beq x 9997 with
      | true =>
        rw [h4] at h
        left
        refine ⟨x_beq h4, ?_⟩
        dsimp only [cond_true, cond_false] at h
        obtain ⟨a, b, r, e1, h⟩ := x_p2_inv h
        obtain ⟨h3, h⟩ := x_bif h
        exact ⟨a, b, r, e1, x_ble h3, x_o_inv h⟩
      | false =>
        rw [h4] at h
        right
        dsimp only [cond_true, cond_false] at h
        unfold x_cl at h
        split at h
        · cases h
        · obtain ⟨-, h⟩ := x_bif h
          exact ⟨_, (Option.some.inj h).symm⟩
theorem x_w_native : Cond.native arraycopyName ∈ x_gw := x_gw_mem (by decide +kernel) rfl
theorem x_w_static : Cond.static arraycopyName ∈ x_gw := x_gw_mem (by decide +kernel) rfl
theorem x_w_sysinit : Cond.initialized "java/lang/System" ∈ x_gw := x_gw_mem (by decide +kernel) rfl
theorem x_w_mathI : Cond.initialized "java/lang/Math" ∈ x_gw := x_gw_mem (by decide +kernel) rfl
theorem x_w_maxS : Cond.static Lib.Math.max.name ∈ x_gw := x_gw_mem (by decide +kernel) rfl
theorem x_w_minS : Cond.static Lib.Math.min.name ∈ x_gw := x_gw_mem (by decide +kernel) rfl
theorem x_w_maxC : Cond.code Lib.Math.max.name Lib.Math.max.code 2 (some .int) ∈ x_gw := x_gw_mem (by decide +kernel) rfl
theorem x_w_minC : Cond.code Lib.Math.min.name Lib.Math.min.code 2 (some .int) ∈ x_gw := x_gw_mem (by decide +kernel) rfl
theorem x_catS_map {g : xG} : ∀ (r : List xMV), ((r.map (x_rv g)).map fun v => v.category).sum = x_catS r
  | [] => rfl
  | v :: r => by
    have h1 : (x_rv g v).category = x_cat v := by rcases v with _ | v | v | v <;> rfl
    rw [List.map_cons, List.map_cons, List.sum_cons, x_catS_map r, h1]; rfl
set_option maxHeartbeats 4000000 in
/-- the numbers' instructions -/
theorem x_step {g : xG} {A : Nat → Prop} {k d : Nat} {p : Program} {l : Launch} {e0 : Env} {R : Room} {s : State} {m : MethodId} {args : Array Value} {below : List Frame} {meth : Method} {c : Code} {cells slots : Nat} {Q : State → Prop} (C : xCx g A k d p R s m args c cells slots)
    {pc : Nat} {r : xRow} (hr : x_tb k pc = some r) {ls st : List xMV} {w : xWd} {e : xEff} (he : x_eff r d k pc ls st w = some e)
    (hk1 : ∀ s', e = .inl s' → xW g A k p l e0 R s m args below meth c cells slots Q s'.1 s'.2.1 s'.2.2.1 s'.2.2.2)
    (hk2 : ∀ P s', e = .inr (.inl (P, s')) → P ∧ xW g A k p l e0 R s m args below meth c cells slots Q s'.1 s'.2.1 s'.2.2.1 s'.2.2.2)
    (hk3 : ∀ q, e ≠ .inr (.inr q)) : xW g A k p l e0 R s m args below meth c cells slots Q pc ls st w := by
  obtain ⟨hx, hb, hml, hown, hts, hKW, hA, hcs, hR, hX⟩ := C
  obtain ⟨hd, hw⟩ := x_row hr
  obtain ⟨ins, x, y, z⟩ := r
  cases ins with
  | iconst v =>
    obtain rfl := x_g_inv he
    intro H locs als hp hl hs
    exact lv_iconst hx hb hd rfl (hk1 _ rfl H locs als hp hl (xSR.cons hs trivial))
  | bipush v =>
    obtain rfl := x_g_inv he
    intro H locs als hp hl hs
    exact lv_bipush hx hb hd (of_decide_eq_true hw) (hk1 _ rfl H locs als hp hl (xSR.cons hs trivial))
  | sipush v =>
    obtain rfl := x_g_inv he
    intro H locs als hp hl hs
    exact lv_sipush hx hb hd (of_decide_eq_true hw) (hk1 _ rfl H locs als hp hl (xSR.cons hs trivial))
  | ldc_w v =>
    obtain rfl := x_g_inv he
    intro H locs als hp hl hs
    exact lv_ldcw hx hb hown (x_gwW hts (of_decide_eq_true hw) rfl) hd (hk1 _ rfl H locs als hp hl (xSR.cons hs trivial))
  | lconst v =>
    obtain rfl := x_g_inv he
    intro H locs als hp hl hs
    exact lv_lconst hx hb hd rfl (hk1 _ rfl H locs als hp hl (xSR.cons hs trivial))
  | ldc2_w v =>
    obtain rfl := x_g_inv he
    intro H locs als hp hl hs
    exact lv_ldc2 hx hb hown (x_gwW hts (of_decide_eq_true hw) rfl) hd (hk1 _ rfl H locs als hp hl (xSR.cons hs trivial))
  | iload_n i =>
    have he : x_ldI ls i.val (fun v => x_g (pc + 1) ls (v :: st) w) = some e := he
    obtain ⟨v, hv, h⟩ := x_ldI_inv he
    obtain rfl := x_g_inv h
    intro H locs als hp hl hs
    exact lv_iload_n hx hb hd rfl (hl.2.2.2 _ _ hv).1 (hk1 _ rfl H locs als hp hl (xSR.cons hs trivial))
  | iload i =>
    have he : x_ldI ls i (fun v => x_g (pc + 2) ls (v :: st) w) = some e := he
    obtain ⟨v, hv, h⟩ := x_ldI_inv he
    obtain rfl := x_g_inv h
    intro H locs als hp hl hs
    exact lv_iload hx hb hd (hl.2.2.2 _ _ hv).1 (hk1 _ rfl H locs als hp hl (xSR.cons hs trivial))
  | lload_n i =>
    have he : x_ldJ ls i.val (fun v => x_g (pc + 1) ls (v :: st) w) = some e := he
    obtain ⟨v, hv, h⟩ := x_ldJ_inv he
    obtain rfl := x_g_inv h
    intro H locs als hp hl hs
    exact lv_lload_n hx hb hd rfl (hl.2.2.2 _ _ hv).1 (hk1 _ rfl H locs als hp hl (xSR.cons hs trivial))
  | lload i =>
    have he : x_ldJ ls i (fun v => x_g (pc + 2) ls (v :: st) w) = some e := he
    obtain ⟨v, hv, h⟩ := x_ldJ_inv he
    obtain rfl := x_g_inv h
    intro H locs als hp hl hs
    exact lv_lload hx hb hd (hl.2.2.2 _ _ hv).1 (hk1 _ rfl H locs als hp hl (xSR.cons hs trivial))
  | aload_n i =>
    have he : x_ldA ls i.val (fun v => x_g (pc + 1) ls (v :: st) w) = some e := he
    obtain ⟨c1, a1, hv, h⟩ := x_ldA_inv he
    obtain rfl := x_g_inv h
    intro H locs als hp hl hs
    exact lv_aload_n hx hb hd rfl (hl.2.2.2 _ _ hv).1 (hk1 _ rfl H locs als hp hl (xSR.cons hs (hl.2.2.2 _ _ hv).2))
  | aload i =>
    have he : x_ldA ls i (fun v => x_g (pc + 2) ls (v :: st) w) = some e := he
    obtain ⟨c1, a1, hv, h⟩ := x_ldA_inv he
    obtain rfl := x_g_inv h
    intro H locs als hp hl hs
    exact lv_aload hx hb hd (hl.2.2.2 _ _ hv).1 (hk1 _ rfl H locs als hp hl (xSR.cons hs (hl.2.2.2 _ _ hv).2))
  | istore_n i =>
    obtain ⟨v, q, rfl, hn, rfl⟩ := x_stI_inv he
    intro H locs als hp hl hs
    exact lv_istore_n hx hb hd rfl hl.has (of_decide_eq_true hw) rfl (fun als' hl' => hk1 _ rfl H locs als' hp (hl.st1 hn trivial (of_decide_eq_true hw) hl') (xSR.tl hs))
  | istore i =>
    obtain ⟨v, q, rfl, hn, rfl⟩ := x_stI_inv he
    intro H locs als hp hl hs
    exact lv_istore hx hb hd hl.has (of_decide_eq_true hw) rfl (fun als' hl' => hk1 _ rfl H locs als' hp (hl.st1 hn trivial (of_decide_eq_true hw) hl') (xSR.tl hs))
  | astore_n i =>
    obtain ⟨c1, a1, q, rfl, hn, rfl⟩ := x_stA_inv he
    intro H locs als hp hl hs
    exact lv_astore_n hx hb hd rfl hl.has (of_decide_eq_true hw) rfl (fun als' hl' => hk1 _ rfl H locs als' hp (hl.st1 hn (hs _ List.mem_cons_self) (of_decide_eq_true hw) hl') (xSR.tl hs))
  | astore i =>
    obtain ⟨c1, a1, q, rfl, hn, rfl⟩ := x_stA_inv he
    intro H locs als hp hl hs
    exact lv_astore hx hb hd hl.has (of_decide_eq_true hw) rfl (fun als' hl' => hk1 _ rfl H locs als' hp (hl.st1 hn (hs _ List.mem_cons_self) (of_decide_eq_true hw) hl') (xSR.tl hs))
  | lstore i =>
    obtain ⟨v, q, rfl, hn, rfl⟩ := x_stJ_inv he
    intro H locs als hp hl hs
    exact lv_lstore hx hb hd hl.has (of_decide_eq_true hw) rfl (fun als' hl' => hk1 _ rfl H locs als' hp (hl.st2 hn trivial (of_decide_eq_true hw) hl') (xSR.tl hs))
  | iinc i v =>
    have he : (match ls[i]? with | some (some (.inl v1)) => x_sto1 i (pc + 3) ls (xI (v1 + Int32.ofInt v)) st w | _ => none) = some e := he
    split at he
    · next v1 hv =>
      obtain ⟨hn, rfl⟩ := x_sto1_inv he
      intro H locs als hp hl hs
      obtain ⟨j, hj⟩ := List.mem_iff_getElem?.mp (x_lvl_mem (g := g).mpr ⟨_, hv, rfl⟩)
      exact lv_iinc hx hb hd hl.has hj rfl (of_decide_eq_true hw) rfl (fun als' hl' => hk1 _ rfl H locs als' hp (hl.st1 hn trivial (of_decide_eq_true hw) hl') hs)
    · cases he
  | iadd =>
    obtain ⟨a, b, q, rfl, h⟩ := x_p2_inv he
    obtain rfl := x_g_inv h
    intro H locs als hp hl hs
    exact lv_iadd hx hb hd (hk1 _ rfl H locs als hp hl (x_s2 hs trivial))
  | isub =>
    obtain ⟨a, b, q, rfl, h⟩ := x_p2_inv he
    obtain rfl := x_g_inv h
    intro H locs als hp hl hs
    exact lv_isub hx hb hd (hk1 _ rfl H locs als hp hl (x_s2 hs trivial))
  | imul =>
    obtain ⟨a, b, q, rfl, h⟩ := x_p2_inv he
    obtain rfl := x_g_inv h
    intro H locs als hp hl hs
    exact lv_imul hx hb hd (hk1 _ rfl H locs als hp hl (x_s2 hs trivial))
  | iand =>
    obtain ⟨a, b, q, rfl, h⟩ := x_p2_inv he
    obtain rfl := x_g_inv h
    intro H locs als hp hl hs
    exact lv_iand hx hb hd (hk1 _ rfl H locs als hp hl (x_s2 hs trivial))
  | ior =>
    obtain ⟨a, b, q, rfl, h⟩ := x_p2_inv he
    obtain rfl := x_g_inv h
    intro H locs als hp hl hs
    exact lv_ior hx hb hd (hk1 _ rfl H locs als hp hl (x_s2 hs trivial))
  | ixor =>
    obtain ⟨a, b, q, rfl, h⟩ := x_p2_inv he
    obtain rfl := x_g_inv h
    intro H locs als hp hl hs
    exact lv_ixor hx hb hd (hk1 _ rfl H locs als hp hl (x_s2 hs trivial))
  | ishl =>
    obtain ⟨a, b, q, rfl, h⟩ := x_p2_inv he
    obtain rfl := x_g_inv h
    intro H locs als hp hl hs
    exact lv_ishl hx hb hd (hk1 _ rfl H locs als hp hl (x_s2 hs trivial))
  | ishr =>
    obtain ⟨a, b, q, rfl, h⟩ := x_p2_inv he
    obtain rfl := x_g_inv h
    intro H locs als hp hl hs
    exact lv_ishr hx hb hd (hk1 _ rfl H locs als hp hl (x_s2 hs trivial))
  | iushr =>
    obtain ⟨a, b, q, rfl, h⟩ := x_p2_inv he
    obtain rfl := x_g_inv h
    intro H locs als hp hl hs
    exact lv_iushr hx hb hd rfl (hk1 _ rfl H locs als hp hl (x_s2 hs trivial))
  | idiv =>
    obtain ⟨a, b, q, rfl, h⟩ := x_p2_inv he
    obtain rfl := x_o_inv h
    obtain ⟨hp0, hk⟩ := hk2 _ _ rfl
    intro H locs als hp hl hs
    exact lv_idiv hx hb hd hp0 (hk H locs als hp hl (x_s2 hs trivial))
  | irem =>
    obtain ⟨a, b, q, rfl, h⟩ := x_p2_inv he
    obtain rfl := x_o_inv h
    obtain ⟨hp0, hk⟩ := hk2 _ _ rfl
    intro H locs als hp hl hs
    exact lv_irem hx hb hd hp0 (hk H locs als hp hl (x_s2 hs trivial))
  | i2b =>
    obtain ⟨a, q, rfl, h⟩ := x_p1_inv he
    obtain rfl := x_g_inv h
    intro H locs als hp hl hs
    exact lv_i2b hx hb hd rfl (hk1 _ rfl H locs als hp hl (x_s1 hs trivial))
  | i2s =>
    obtain ⟨a, q, rfl, h⟩ := x_p1_inv he
    obtain rfl := x_g_inv h
    intro H locs als hp hl hs
    exact lv_i2s hx hb hd rfl (hk1 _ rfl H locs als hp hl (x_s1 hs trivial))
  | i2l =>
    obtain ⟨a, q, rfl, h⟩ := x_p1_inv he
    obtain rfl := x_g_inv h
    intro H locs als hp hl hs
    exact lv_i2l hx hb hd rfl (hk1 _ rfl H locs als hp hl (x_s1 hs trivial))
  | ldiv =>
    obtain ⟨a, b, q, rfl, h⟩ := x_q2_inv he
    obtain rfl := x_o_inv h
    obtain ⟨hp0, hk⟩ := hk2 _ _ rfl
    intro H locs als hp hl hs
    exact lv_ldiv hx hb hd hp0 (hk H locs als hp hl (x_s2 hs trivial))
  | lrem =>
    obtain ⟨a, b, q, rfl, h⟩ := x_q2_inv he
    obtain rfl := x_o_inv h
    obtain ⟨hp0, hk⟩ := hk2 _ _ rfl
    intro H locs als hp hl hs
    exact lv_lrem hx hb hd hp0 (hk H locs als hp hl (x_s2 hs trivial))
  | lcmp =>
    obtain ⟨a, b, q, rfl, h⟩ := x_q2_inv he
    obtain rfl := x_g_inv h
    intro H locs als hp hl hs
    exact W.lcmp hx hb hd (hk1 _ rfl H locs als hp hl (x_s2 hs trivial))
  | dup =>
    unfold x_eff at he
    dsimp only at he
    split at he
    · obtain rfl := x_g_inv he
      intro H locs als hp hl hs
      exact lv_dup hx hb hd rfl (hk1 _ rfl H locs als hp hl (xSR.cons hs trivial))
    · obtain rfl := x_g_inv he
      intro H locs als hp hl hs
      exact lv_dup hx hb hd rfl (hk1 _ rfl H locs als hp hl (xSR.cons hs (hs _ List.mem_cons_self)))
    · cases he
  | dup2 =>
    unfold x_eff at he
    dsimp only at he
    split at he
    · obtain rfl := x_g_inv he
      intro H locs als hp hl hs
      exact lv_dup2_11 hx hb hd rfl rfl (hk1 _ rfl H locs als hp hl (xSR.cons (xSR.cons hs (hs _ (List.mem_cons_of_mem _ List.mem_cons_self))) trivial))
    · cases he
  | pop =>
    obtain ⟨a, q, rfl, h⟩ := x_p1_inv he
    obtain rfl := x_g_inv h
    intro H locs als hp hl hs
    exact lv_pop hx hb hd rfl (hk1 _ rfl H locs als hp hl (xSR.tl hs))
  | ifCond cc o =>
    obtain ⟨a, q, rfl, h⟩ := x_p1_inv he
    obtain rfl := x_g_inv h
    have ht := of_decide_eq_true hw
    intro H locs als hp hl hs
    have hk := hk1 _ rfl H locs als hp hl (xSR.tl hs)
    dsimp only at hk
    cases cc with
    | eq => exact lv_if_eq hx hb hd ht (fun q => by rw [show x_icmp .eq a 0 x (pc + 3) = x from if_pos q] at hk; exact hk) (fun q => by rw [show x_icmp .eq a 0 x (pc + 3) = pc + 3 from if_neg q] at hk; exact hk)
    | ne => exact lv_if_ne hx hb hd ht (fun q => by rw [show x_icmp .ne a 0 x (pc + 3) = x from if_neg q] at hk; exact hk) (fun q => by rw [show x_icmp .ne a 0 x (pc + 3) = pc + 3 from if_pos q] at hk; exact hk)
    | lt => exact lv_if_lt hx hb hd ht (fun q => by rw [show x_icmp .lt a 0 x (pc + 3) = x from if_pos q] at hk; exact hk) (fun q => by rw [show x_icmp .lt a 0 x (pc + 3) = pc + 3 from if_neg q] at hk; exact hk)
    | ge => exact lv_if_ge hx hb hd ht (fun q => by rw [show x_icmp .ge a 0 x (pc + 3) = x from if_pos q] at hk; exact hk) (fun q => by rw [show x_icmp .ge a 0 x (pc + 3) = pc + 3 from if_neg q] at hk; exact hk)
    | gt => exact lv_if_gt hx hb hd ht (fun q => by rw [show x_icmp .gt a 0 x (pc + 3) = x from if_pos q] at hk; exact hk) (fun q => by rw [show x_icmp .gt a 0 x (pc + 3) = pc + 3 from if_neg q] at hk; exact hk)
    | le => exact lv_if_le hx hb hd ht (fun q => by rw [show x_icmp .le a 0 x (pc + 3) = x from if_pos q] at hk; exact hk) (fun q => by rw [show x_icmp .le a 0 x (pc + 3) = pc + 3 from if_neg q] at hk; exact hk)
  | if_icmp cc o =>
    obtain ⟨a, b, q, rfl, h⟩ := x_p2_inv he
    obtain rfl := x_g_inv h
    have ht := of_decide_eq_true hw
    intro H locs als hp hl hs
    have hk := hk1 _ rfl H locs als hp hl (xSR.tl (xSR.tl hs))
    dsimp only at hk
    cases cc with
    | eq => exact lv_icmp_eq hx hb hd ht (fun q => by rw [show x_icmp .eq a b x (pc + 3) = x from if_pos q] at hk; exact hk) (fun q => by rw [show x_icmp .eq a b x (pc + 3) = pc + 3 from if_neg q] at hk; exact hk)
    | ne => exact lv_icmp_ne hx hb hd ht (fun q => by rw [show x_icmp .ne a b x (pc + 3) = x from if_neg q] at hk; exact hk) (fun q => by rw [show x_icmp .ne a b x (pc + 3) = pc + 3 from if_pos q] at hk; exact hk)
    | lt => exact lv_icmp_lt hx hb hd ht (fun q => by rw [show x_icmp .lt a b x (pc + 3) = x from if_pos q] at hk; exact hk) (fun q => by rw [show x_icmp .lt a b x (pc + 3) = pc + 3 from if_neg q] at hk; exact hk)
    | ge => exact lv_icmp_ge hx hb hd ht (fun q => by rw [show x_icmp .ge a b x (pc + 3) = x from if_pos q] at hk; exact hk) (fun q => by rw [show x_icmp .ge a b x (pc + 3) = pc + 3 from if_neg q] at hk; exact hk)
    | gt => exact lv_icmp_gt hx hb hd ht (fun q => by rw [show x_icmp .gt a b x (pc + 3) = x from if_pos q] at hk; exact hk) (fun q => by rw [show x_icmp .gt a b x (pc + 3) = pc + 3 from if_neg q] at hk; exact hk)
    | le => exact lv_icmp_le hx hb hd ht (fun q => by rw [show x_icmp .le a b x (pc + 3) = x from if_pos q] at hk; exact hk) (fun q => by rw [show x_icmp .le a b x (pc + 3) = pc + 3 from if_neg q] at hk; exact hk)
  | goto o =>
    obtain rfl := x_g_inv he
    intro H locs als hp hl hs
    exact lv_goto hx hb hd (of_decide_eq_true hw) (hk1 _ rfl H locs als hp hl hs)
  | tableswitch dft lo hi offs =>
    obtain ⟨a, q, rfl, h⟩ := x_p1_inv he
    obtain rfl := x_g_inv h
    have hw : (decide (hi = lo + offs.toList.length - 1) && decide (0 ≤ (pc : Int) + dft) && offs.toList.all (fun o => decide (0 ≤ (pc : Int) + o)) && decide (-1000 ≤ lo ∧ hi ≤ 1000)) = true := hw
    simp only [Bool.and_eq_true, decide_eq_true_eq] at hw
    obtain ⟨⟨⟨hhi, hdn⟩, hall⟩, hlo, hhi2⟩ := hw
    intro H locs als hp hl hs
    have hk := hk1 _ rfl H locs als hp hl (xSR.tl hs)
    dsimp only at hk
    by_cases h1 : a.toInt < lo ∨ hi < a.toInt
    · rw [x_tsl_out offs.toList lo hlo (by omega) (by omega)] at hk
      exact lv_tableOut hx hb hd h1 (by omega) hk
    · obtain ⟨o, ho, e1⟩ := x_tsl_in (a := a) (pc := (pc : Int)) (d := ((pc : Int) + dft).toNat) offs.toList lo hlo (by omega) (by omega) (by omega)
      rw [e1] at hk
      have ho2 : 0 ≤ (pc : Int) + o := by
        have := List.all_eq_true.mp hall o (List.mem_of_getElem? ho)
        simpa using this
      exact lv_tableIn hx hb hd (by omega) (by omega) (by rw [← Array.getElem?_toList]; exact ho) (by omega) hk
  | lookupswitch dft ps =>
    obtain ⟨a, q, rfl, h⟩ := x_p1_inv he
    obtain rfl := x_g_inv h
    have hw : (decide (0 ≤ (pc : Int) + dft) && ps.toList.all (fun o => decide (0 ≤ (pc : Int) + o.2) && decide (-1000 ≤ o.1 ∧ o.1 ≤ 1000)) && (ps.toList.zip (ps.toList.drop 1)).all (fun (a, next) => decide (a.1 < next.1))) = true := hw
    rw [Bool.and_eq_true, Bool.and_eq_true] at hw
    obtain ⟨⟨hdn, hall⟩, hsort⟩ := hw
    intro H locs als hp hl hs
    have hk := hk1 _ rfl H locs als hp hl (xSR.tl hs)
    dsimp only at hk
    exact lv_lookup hx hb hd hsort rfl (x_psl_t (of_decide_eq_true hdn) ps.toList (fun o ho => by
      have := List.all_eq_true.mp hall o ho
      simpa [Bool.and_eq_true] using this)) hk
  | getfield i =>
    have he : x_pa st (fun c a q => bif Nat.beq c x then x_g (pc + 3) ls (x_fv x a y w :: q) w else none) = some e := he
    obtain ⟨c1, a1, q, rfl, h⟩ := x_pa_inv he
    obtain ⟨hc, h⟩ := x_bif h
    obtain rfl := x_beq hc
    obtain rfl := x_g_inv h
    have hw : (decide (c1 < 8) && decide (y < x_nf c1) && decide (lw_tbl[z]? = some (Cond.fieldLink (x_mt k).1.cls i (x_F c1 y).1 (x_F c1 y).2.1 (x_F c1 y).2.2.1))) = true := hw
    simp only [Bool.and_eq_true, decide_eq_true_eq] at hw
    obtain ⟨⟨hc8, hy⟩, hlk⟩ := hw
    intro H locs als hp hl hs
    have hcell := x_vokA (hs _ List.mem_cons_self) (by omega : c1 ≠ 51)
    obtain ⟨q0, -, he0⟩ := x_wl_at (g := g) (w := w) hcell
    rw [x_ce_obj hc8] at he0
    obtain ⟨hcl, hN⟩ := x_cls_at c1 hc8
    refine va_get (D := g.1) (C := (x_cn c1).1) (T := (x_cn c1).2.1) (N := (x_cn c1).2.2) hx hb hts (x_cls_in c1 hc8) hown hKW.1 hp.1 q0 he0 hcl y (by rw [hN]; exact hy) (x_gwW hts hlk rfl) (fun _ h9 => h9) (x_fs_at hy) hd (hk1 _ rfl H locs als hp hl (x_s1 hs ?_))
    unfold x_fv
    cases hft : x_ft c1 y with
    | none => exact trivial
    | some t => exact Or.inr (x_cell_fld hcell hy hft)
  | putfield i =>
    obtain ⟨v, a1, r, rfl, hft, h⟩ := x_pf_inv (show x_pf x y pc ls st w = some e from he)
    clear he
    have hw : (decide (x < 8) && decide (y < x_nf x) && decide (lw_tbl[z]? = some (Cond.fieldLink (x_mt k).1.cls i (x_F x y).1 (x_F x y).2.1 (x_F x y).2.2.1)) && decide ((x_F x y).2.2.2 = false) && (if x_fz x y then decide (parseFieldDescriptor (x_F x y).2.2.1 = some .boolean) else decide (parseFieldDescriptor (x_F x y).2.2.1 = some .int))) = true := hw
    rw [Bool.and_eq_true, Bool.and_eq_true, Bool.and_eq_true, Bool.and_eq_true] at hw
    obtain ⟨⟨⟨⟨hc8, hy⟩, hlk⟩, hfin⟩, hty⟩ := hw
    have hc8 := of_decide_eq_true hc8
    have hy := of_decide_eq_true hy
    have hlk := of_decide_eq_true hlk
    have hfin := of_decide_eq_true hfin
    obtain ⟨hcl, hN⟩ := x_cls_at x hc8
    obtain ⟨ty0, hty0, hnm⟩ := x_cls_put x hc8
    have fin : ∀ (ty : FieldType), parseFieldDescriptor (x_F x y).2.2.1 = some ty → narrow ty (.int v) = .int v → fits ty (.int v) = true → xW g A k p l e0 R s m args below meth c cells slots Q (pc + 3) ls r (x_set w a1 y v) → xW g A k p l e0 R s m args below meth c cells slots Q pc ls (xI v :: xA x a1 :: r) w := by
      intro ty hd1 hn1 hf1 hk H locs als hp hl hs
      have hcell := x_vokA (hs _ (List.mem_cons_of_mem _ List.mem_cons_self)) (by omega : x ≠ 51)
      obtain ⟨q0, hq0, he0⟩ := x_wl_at (g := g) (w := w) hcell
      rw [x_ce_obj hc8] at he0
      obtain ⟨n0, n4, -⟩ := x_cell_ne hcell
      refine va_put (v := .int v) (D := g.1) (C := (x_cn x).1) (T := (x_cn x).2.1) (N := (x_cn x).2.2) hx hb hts (x_cls_in x hc8) ty0 hty0 hnm hown hKW.1 hp.1 hp.2.1 hp.2.2.1 q0 he0 hcl y (by rw [hN]; exact hy) (x_gwW hts hlk rfl) (fun _ h9 => h9) hfin hd1 hn1 hf1 (by simpa using hy) hd (fun H1 locs1 hP1 hD1 hS1 => ?_)
      rw [x_fs_set hft, ← x_ce_obj (g := g) (w := x_set w a1 y v) (a := a1) hc8] at hP1
      have e1 : (x_wl g w).set q0 (x_ce g (x_set w a1 y v) (a1, x)) = x_wl g (x_set w a1 y v) := x_wl_set hq0
      rw [e1] at hP1
      obtain ⟨s0, s4⟩ := x_put_scr (w := w) (f := upd (w a1) y v) n0 n4
      exact hk H1 locs1 als ⟨hP1, x_wl_D hp.2.1, hS1, s0.trans hp.2.2.2.1, s4.trans hp.2.2.2.2⟩ hl (xSR.tl (xSR.tl hs))
    rcases h with ⟨hz, rfl⟩ | ⟨hz, rfl⟩
    · rw [hz] at hty
      obtain ⟨hv, hk⟩ := hk2 _ _ rfl
      exact fin .boolean (of_decide_eq_true hty) (by rcases hv with rfl | rfl <;> rfl) (by rcases hv with rfl | rfl <;> rfl) hk
    · rw [hz] at hty
      exact fin .int (of_decide_eq_true hty) rfl rfl (hk1 _ rfl)
  | iaload =>
    obtain ⟨i, c1, a1, r, rfl, h⟩ := x_iald_inv (show x_iald k pc ls st w = some e from he)
    clear he
    rcases h with ⟨rfl, rfl⟩ | ⟨hc1, rfl⟩
    · obtain ⟨⟨hk0, hin⟩, hk⟩ := hk2 _ _ rfl
      obtain ⟨hXX, hbl, hbA, hL⟩ := hX hk0
      intro H locs als hp hl hs
      have ha : a1 = 0 := by
        rcases hs _ (List.mem_cons_of_mem _ List.mem_cons_self) with h | h
        · exact congrArg Prod.snd h
        · exact absurd rfl (x_cell_ne h).2.2
      subst ha
      rw [hp.2.2.2.2] at hin
      dsimp only at hin
      rw [nI_clamp hL] at hin
      have hk := hk H locs als hp hl (x_s2 hs trivial)
      dsimp only at hk
      have e1 : w 0 i.toNatClampNeg = g.2.2.2.1 i.toNatClampNeg := by rw [hp.2.2.2.1]
      rw [e1] at hk
      exact va_sld hx hb hXX hbl hbA hp.2.2.1 hin hd hk
    · obtain ⟨hin, hk⟩ := hk2 _ _ rfl
      intro H locs als hp hl hs
      have hcell := x_vokA (hs _ (List.mem_cons_of_mem _ List.mem_cons_self)) (by omega : c1 ≠ 51)
      obtain ⟨q0, -, he0⟩ := x_wl_at (g := g) (w := w) hcell
      rw [x_ce_arr hc1] at he0
      obtain ⟨t0, ht0⟩ := x_ty_arr (g := g) hcell hc1
      exact va_iald hx hb hKW.1 hp.1 q0 t0 he0 ht0 hin hd (hk H locs als hp hl (x_s2 hs trivial))
  | iastore =>
    obtain ⟨v, i, c1, a1, r, rfl, hc1, rfl⟩ := x_iast_inv (show x_iast pc ls st w = some e from he)
    obtain ⟨hin, hk⟩ := hk2 _ _ rfl
    intro H locs als hp hl hs
    have hcell := x_vokA (hs _ (List.mem_cons_of_mem _ (List.mem_cons_of_mem _ List.mem_cons_self))) (by omega : c1 ≠ 51)
    obtain ⟨q0, hq0, he0⟩ := x_wl_at (g := g) (w := w) hcell
    rw [x_ce_arr hc1] at he0
    obtain ⟨n0, n4, -⟩ := x_cell_ne hcell
    obtain ⟨t0, ht0⟩ := x_ty_arr (g := g) hcell hc1
    refine va_iast hx hb hKW.1 hp.1 hp.2.1 hp.2.2.1 q0 t0 he0 ht0 hin hd (fun H1 locs1 hP1 hD1 hS1 => ?_)
    have e0 : x_ce g (x_set w a1 i.toNatClampNeg v) (a1, c1) = (g.2.1 a1, .inl (g.2.2.1 a1, c1 - 100, .inl (upd (w a1) i.toNatClampNeg v))) := by
      rw [x_ce_arr hc1]; unfold x_set; rw [x_put_self]
    rw [← e0] at hP1
    have e1 : (x_wl g w).set q0 (x_ce g (x_set w a1 i.toNatClampNeg v) (a1, c1)) = x_wl g (x_set w a1 i.toNatClampNeg v) := x_wl_set hq0
    rw [e1] at hP1
    obtain ⟨s0, s4⟩ := x_put_scr (w := w) (f := upd (w a1) i.toNatClampNeg v) n0 n4
    exact hk H1 locs1 als ⟨hP1, x_wl_D hp.2.1, hS1, s0.trans hp.2.2.2.1, s4.trans hp.2.2.2.2⟩ hl (xSR.tl (xSR.tl (xSR.tl hs)))
  | aaload =>
    obtain ⟨i, a1, r, rfl, rfl⟩ := x_aald_inv (show x_aald pc ls st w = some e from he)
    obtain ⟨hin, hk⟩ := hk2 _ _ rfl
    intro H locs als hp hl hs
    have hcell := x_vokA (hs _ (List.mem_cons_of_mem _ List.mem_cons_self)) (by omega : 50 ≠ 51)
    obtain ⟨q0, -, he0⟩ := x_wl_at (g := g) (w := w) hcell
    rw [x_ce_row] at he0
    obtain ⟨t0, ht0⟩ := x_ty_row (g := g) hcell
    have hlt : i.toNatClampNeg < 4 := Nat.not_le.mp fun q => hin (Or.inr q)
    exact va_aldq hx hb hKW.1 hp.1 q0 t0 he0 ht0 hin hd (hk H locs als hp hl (x_s2 hs (Or.inr (x_cell_row hcell hlt))))
  | arraylength =>
    have he : x_alen k pc ls st w = some e := he
    unfold x_alen at he
    obtain ⟨c1, a1, q, rfl, h⟩ := x_pa_inv he
    clear he
    cases hc : Nat.beq c1 51 with
    | true =>
      rw [hc] at h
      have hc := x_beq hc
      subst hc
      obtain rfl := x_o_inv h
      obtain ⟨hk0, hk⟩ := hk2 _ _ rfl
      obtain ⟨hXX, hbl, hbA, hL⟩ := hX hk0
      intro H locs als hp hl hs
      have ha : a1 = 0 := by
        rcases hs _ List.mem_cons_self with h | h
        · exact congrArg Prod.snd h
        · exact absurd rfl (x_cell_ne h).2.2
      subst ha
      have hk := hk H locs als hp hl (x_s1 hs trivial)
      dsimp only at hk
      rw [hp.2.2.2.2] at hk
      exact va_slen hx hb hXX hbl hbA hp.2.2.1 hd hk
    | false =>
      rw [hc] at h
      obtain ⟨hc1, h⟩ := x_bif h
      have hc1 := x_ble hc1
      obtain rfl := x_g_inv h
      intro H locs als hp hl hs
      have hcell := x_vokA (hs _ List.mem_cons_self) (by omega : c1 ≠ 51)
      obtain ⟨q0, -, he0⟩ := x_wl_at (g := g) (w := w) hcell
      rw [x_ce_arr hc1] at he0
      obtain ⟨t0, ht0⟩ := x_ty_arr (g := g) hcell hc1
      exact va_alen hx hb hKW.1 hp.1 q0 t0 he0 ht0 rfl hd (hk1 _ rfl H locs als hp hl (x_s1 hs trivial))
  | invokevirtual i =>
    exfalso
    have he : x_clv x (x_rev st y []) = some e := he
    unfold x_clv at he
    split at he
    · obtain ⟨-, he⟩ := x_bif he
      unfold x_cl at he
      try dsimp only at he
      obtain ⟨-, he⟩ := x_bif he
      exact hk3 _ (Option.some.inj he).symm
    · cases he
  | invokestatic i =>
    obtain h := x_ist_inv (show x_ist d x y pc ls st w = some e from he)
    clear he
    rcases h with ⟨rfl, n, dp, c1, a1, sp, c0, a0, rfl, rfl⟩ | ⟨rfl, a, b, r, rfl, hc8, rfl⟩ | ⟨rfl, a, b, r, rfl, hc8, rfl⟩ | ⟨q, h⟩
    · obtain ⟨⟨hd1, h100, h101, hsp, hdp, hn, hle0, hle1⟩, hk⟩ := hk2 _ _ rfl
      have hw : lw_tbl[z]? = some (Cond.methodLink (x_mt k).1.cls i arraycopyName) := of_decide_eq_true hw
      intro H locs als hp hl hs
      have hcell1 := x_vokA (hs _ (List.mem_cons_of_mem _ (List.mem_cons_of_mem _ List.mem_cons_self))) (by omega : c1 ≠ 51)
      have hcell0 := x_vokA (hs _ (List.mem_cons_of_mem _ (List.mem_cons_of_mem _ (List.mem_cons_of_mem _ (List.mem_cons_of_mem _ List.mem_cons_self))))) (by omega : c0 ≠ 51)
      obtain ⟨q0, -, he0⟩ := x_wl_at (g := g) (w := w) hcell0
      obtain ⟨q1, hq1, he1⟩ := x_wl_at (g := g) (w := w) hcell1
      rw [x_ce_arr h100] at he0
      rw [x_ce_arr h101] at he1
      obtain ⟨t0, ht0⟩ := x_ty_arr (g := g) hcell0 h100
      obtain ⟨t1, ht1⟩ := x_ty_arr (g := g) hcell1 h101
      obtain ⟨n0, n4, -⟩ := x_cell_ne hcell1
      have hlo : (([] : List Value).map fun v => v.category).sum + (nativeFrameWords "java/lang/System" "arraycopy" 5 + 11) ≤ R.locals := by
        have e1 : (([] : List Value).map fun v => v.category).sum + (nativeFrameWords "java/lang/System" "arraycopy" 5 + 11) = 18 := by decide +kernel
        rw [e1]; omega
      refine va_copyi (rest := []) (ty := .int) hx hb (by rw [hml]; exact hl.2.1.symm) hown (x_gwW hts hw rfl) (hts _ x_w_native) (hts _ x_w_static) (hts _ x_w_sysinit) hKW.1 hp.1 hp.2.1 hp.2.2.1 q0 q1 t0 t1 he0 he1 ht0 ht1 rfl hsp hdp hn hle0 hle1 (fun _ _ => rfl) (by omega) hlo hd (fun H1 locs1 hP1 hD1 hS1 => ?_)
      have e0 : x_ce g (x_put w a1 (va_cpy (w a0) (w a1) sp.toNatClampNeg dp.toNatClampNeg n.toNatClampNeg)) (a1, c1) = (g.2.1 a1, .inl (g.2.2.1 a1, c1 - 100, .inl (va_cpy (w a0) (w a1) sp.toNatClampNeg dp.toNatClampNeg n.toNatClampNeg))) := by
        rw [x_ce_arr h101, x_put_self]
      rw [← e0, x_wl_set hq1] at hP1
      obtain ⟨s0, s4⟩ := x_put_scr (w := w) (f := va_cpy (w a0) (w a1) sp.toNatClampNeg dp.toNatClampNeg n.toNatClampNeg) n0 n4
      exact hk H1 locs1 als ⟨hP1, x_wl_D hp.2.1, hS1, s0.trans hp.2.2.2.1, s4.trans hp.2.2.2.2⟩ hl (fun _ h => by cases h)
    · obtain ⟨hd1, hk⟩ := hk2 _ _ rfl
      have hw : lw_tbl[z]? = some (Cond.methodLink (x_mt k).1.cls i Lib.Math.max.name) := of_decide_eq_true hw
      intro H locs als hp hl hs
      exact va_mmax hx hb (by rw [hml]; exact hl.2.1.symm) hown (x_gwW hts hw rfl) (hts _ x_w_maxS) (hts _ x_w_mathI) (hts _ x_w_maxC) (by omega) (by rw [x_catS_map]; omega) hcs.1 hcs.2 hd (hk H locs als hp hl (x_s2 hs trivial))
    · obtain ⟨hd1, hk⟩ := hk2 _ _ rfl
      have hw : lw_tbl[z]? = some (Cond.methodLink (x_mt k).1.cls i Lib.Math.min.name) := of_decide_eq_true hw
      intro H locs als hp hl hs
      exact va_mmin hx hb (by rw [hml]; exact hl.2.1.symm) hown (x_gwW hts hw rfl) (hts _ x_w_minS) (hts _ x_w_mathI) (hts _ x_w_minC) (by omega) (by rw [x_catS_map]; omega) hcs.1 hcs.2 hd (hk H locs als hp hl (x_s2 hs trivial))
    · exact absurd h (hk3 _)
  | ireturn =>
    exfalso
    have he : x_iret x st = some e := he
    unfold x_iret at he
    split at he
    · split at he <;> exact hk3 _ (Option.some.inj he).symm
    · cases he
  | lreturn =>
    exfalso
    unfold x_eff at he
    dsimp only at he
    split at he
    · exact hk3 _ (Option.some.inj he).symm
    · cases he
  | return_ =>
    exfalso
    unfold x_eff at he
    dsimp only at he
    split at he
    · exact hk3 _ (Option.some.inj he).symm
    · cases he
  | _ => cases he
