/-! CALLS, RETURNS, and the whole: what the small machine comes to, the machine comes to -/
theorem x_rev_inv : ∀ (n : Nat) (st acc as rst : List xMV), x_rev st n acc = some (as, rst) → ∃ pre : List xMV, pre.length = n ∧ st = pre ++ rst ∧ as = pre.reverse ++ acc
  | 0, st, acc, as, rst, h => by
    rw [x_rev] at h
    cases h; exact ⟨[], rfl, rfl, rfl⟩
  | n + 1, [], acc, as, rst, h => by
    have h : (none : Option (List xMV × List xMV)) = some (as, rst) := h
    cases h
  | n + 1, v :: r, acc, as, rst, h => by
    obtain ⟨pre, h1, h2, h3⟩ := x_rev_inv n r (v :: acc) as rst h
    exact ⟨v :: pre, by rw [List.length_cons, h1], by rw [h2]; rfl, by rw [h3]; simp⟩
theorem x_rev_inv0 {n : Nat} {st as rst : List xMV} (h : x_rev st n [] = some (as, rst)) : as.length = n ∧ st = as.reverse ++ rst := by
  obtain ⟨pre, h1, h2, h3⟩ := x_rev_inv n st [] as rst h
  rw [List.append_nil] at h3
  subst h3
  exact ⟨by rw [List.length_reverse]; exact h1, by rw [List.reverse_reverse]; exact h2⟩
def xB (g : xG) (A1 : Nat → Prop) (u : xWd) (t : State) : Prop := va_P g.1 x_cls (x_wl g u) t.heap ∧ x_KW g t ∧ va_D A1 (x_wl g u) ∧ u 0 = g.2.2.2.1 ∧ u 4 = (fun _ => nI g.2.2.2.2)
def xQC (g : xG) (ret : Option FieldType) (Q : xMV → xWd → Prop) (A1 : Nat → Prop) : Array Value → State → Outcome → State → Prop := match ret with
  | none => va_Qv (fun u : xWd => Q xU u) (xB g A1) A1
  | some .long => va_Ql (fun a (u : xWd) => Q (xJ a) u) (xB g A1) A1
  | some _ => va_Qi (fun a (u : xWd) => Q (xI a) u) (xB g A1) A1
def x_ws (k : Nat) : List Cond := Cond.code (x_mt k).1 (x_mt k).2.1 (x_mt k).2.2.1 (x_mt k).2.2.2.1 :: x_gw
def x_rm (d : Nat) : Room := { frames := d, cells := 0, slots := 0, locals := 30 * d }
def xPc (g : xG) (as : List xMV) (w : xWd) (sz : Nat) : Array Value → State → Prop := va_Pc (as.map (x_rv g)) (fun U => U.heap.size = sz ∧ va_P g.1 x_cls (x_wl g w) U.heap ∧ x_KW g U ∧ va_D (fun _ => True) (x_wl g w) ∧ w 0 = g.2.2.2.1 ∧ w 4 = (fun _ => nI g.2.2.2.2))
def xMet (l : Launch) (g : xG) (d k : Nat) (as : List xMV) (w : xWd) (Q : xMV → xWd → Prop) : Prop := ∀ sz : Nat, Met l (x_mt k).1 (x_ws k) (x_rm d) (xPc g as w sz) (xQC g (x_mt k).2.2.2.1 Q (va_A (x_wl g w) sz)) 0 0 (va_A (x_wl g w) sz)
theorem x_GI {ws : List Cond} (h : ∀ w ∈ ws, w ∈ x_gw) : GoodIn x_gw ws := fun w hw => ⟨h w hw, good_of_word (List.mem_filter.mp (h w hw)).2⟩
theorem x_ws_in {k : Nat} (h : x_MOk (x_mt k)) : ∀ w ∈ x_ws k, w ∈ x_gw := by
  intro w hw
  rcases List.mem_cons.mp hw with rfl | hw
  · exact x_gw_mem h.1 rfl
  · exact hw
theorem x_nest_all : lw_tbl.all (fun w => match w with
  | .methodLinkNest a i y h => decide (y.name = "<init>") || decide (Cond.methodLinkNest a i y h ∈ x_nests)
  | _ => true) = true := by decide +kernel
theorem x_noinit : x_mts.all (fun m => decide (m.1.name ≠ "<init>")) = true := by decide +kernel
theorem x_nth_mem {α : Type} {d : α} : ∀ (l : List α) (n : Nat), n < l.length → x_nth d l n ∈ l
  | [], n, h => absurd h (Nat.not_lt_zero _)
  | a :: r, 0, _ => List.mem_cons_self
  | a :: r, n + 1, h => List.mem_cons_of_mem _ (x_nth_mem r n (Nat.lt_of_succ_lt_succ h))
theorem x_mts_len : x_mts.length = 169 := by decide +kernel
theorem x_nest {k y i z : Nat} (hy : y < 169) (h : lw_tbl[z]? = some (Cond.methodLinkNest (x_mt k).1.cls i (x_mt y).1 "ValuePlaces")) : Cond.methodLinkNest (x_mt k).1.cls i (x_mt y).1 "ValuePlaces" ∈ x_nests := by
  have h1 := List.all_eq_true.mp x_nest_all _ (List.mem_of_getElem? h)
  dsimp only at h1
  have h2 := List.all_eq_true.mp x_noinit _ (x_nth_mem (d := x_m0) x_mts y (by rw [x_mts_len]; exact hy))
  have h3 : (x_mt y).1.name ≠ "<init>" := of_decide_eq_true h2
  rw [Bool.or_eq_true] at h1
  rcases h1 with h1 | h1
  · exact absurd (of_decide_eq_true h1) h3
  · exact of_decide_eq_true h1
theorem xPc_blind {g : xG} {as : List xMV} {w : xWd} {sz : Nat} : FrameBlind (xPc g as w sz) := by
  intro a U f mk q
  obtain ⟨q0, q1, qP, qK, qD, q4, q5⟩ := q
  exact ⟨q0, q1, qP, qK.same rfl, qD, q4, q5⟩
theorem xPc_at {g : xG} {as : List xMV} {w : xWd} {A : Nat → Prop} {s U : State} {H : Heap} {locs : List Loc} (hp : xPt g A s w H locs) (hK : x_KW g s) (hU : U.heap = H) (hW : s.WarmedH U.vm) : xPc g as w H.size (as.map (x_rv g)).toArray U :=
  ⟨rfl, by rw [hU], by rw [hU]; exact hp.1, hK.warm hW, hp.2.1.weaken (fun _ _ _ _ => trivial), hp.2.2.2.1, hp.2.2.2.2⟩
set_option maxHeartbeats 4000000 in
theorem x_ins_inv {r : xRow} {d k pc : Nat} {ls st : List xMV} {w : xWd} {q : (Nat × List xMV × List xMV) ⊕ (Prop × xMV)} (he : x_eff r d k pc ls st w = some (.inr (.inr q))) : (∃ i, r.1 = .invokevirtual i) ∨ (∃ i, r.1 = .invokestatic i) ∨ r.1 = .ireturn ∨ r.1 = .lreturn ∨ r.1 = .return_ := by
  obtain ⟨ins, x, y, z⟩ := r
  cases ins with
  | invokevirtual i => exact Or.inl ⟨_, rfl⟩
  | invokestatic i => exact Or.inr (Or.inl ⟨_, rfl⟩)
  | ireturn => exact Or.inr (Or.inr (Or.inl rfl))
  | lreturn => exact Or.inr (Or.inr (Or.inr (Or.inl rfl)))
  | return_ => exact Or.inr (Or.inr (Or.inr (Or.inr rfl)))
  | iload_n i => obtain ⟨_, _, h⟩ := x_ldI_inv (show x_ldI ls i.val (fun v => x_g (pc + 1) ls (v :: st) w) = _ from he); cases (x_g_inv h)
  | iload i => obtain ⟨_, _, h⟩ := x_ldI_inv (show x_ldI ls i (fun v => x_g (pc + 2) ls (v :: st) w) = _ from he); cases (x_g_inv h)
  | lload_n i => obtain ⟨_, _, h⟩ := x_ldJ_inv (show x_ldJ ls i.val (fun v => x_g (pc + 1) ls (v :: st) w) = _ from he); cases (x_g_inv h)
  | lload i => obtain ⟨_, _, h⟩ := x_ldJ_inv (show x_ldJ ls i (fun v => x_g (pc + 2) ls (v :: st) w) = _ from he); cases (x_g_inv h)
  | aload_n i => obtain ⟨_, _, _, h⟩ := x_ldA_inv (show x_ldA ls i.val (fun v => x_g (pc + 1) ls (v :: st) w) = _ from he); cases (x_g_inv h)
  | aload i => obtain ⟨_, _, _, h⟩ := x_ldA_inv (show x_ldA ls i (fun v => x_g (pc + 2) ls (v :: st) w) = _ from he); cases (x_g_inv h)
  | istore_n i => obtain ⟨_, _, _, _, h⟩ := x_stI_inv he; cases h
  | istore i => obtain ⟨_, _, _, _, h⟩ := x_stI_inv he; cases h
  | astore_n i => obtain ⟨_, _, _, _, _, h⟩ := x_stA_inv he; cases h
  | astore i => obtain ⟨_, _, _, _, _, h⟩ := x_stA_inv he; cases h
  | lstore i => obtain ⟨_, _, _, _, h⟩ := x_stJ_inv he; cases h
  | iinc i v =>
    unfold x_eff at he
    dsimp only at he
    split at he
    · obtain ⟨_, h⟩ := x_sto1_inv he; cases h
    · cases he
  | dup =>
    unfold x_eff at he
    dsimp only at he
    split at he
    · cases (x_g_inv he)
    · cases (x_g_inv he)
    · cases he
  | dup2 =>
    unfold x_eff at he
    dsimp only at he
    split at he
    · cases (x_g_inv he)
    · cases he
  | getfield i =>
    obtain ⟨_, _, _, _, h⟩ := x_pa_inv (show x_pa st (fun c a q => bif Nat.beq c x then x_g (pc + 3) ls (x_fv x a y w :: q) w else none) = _ from he)
    obtain ⟨_, h⟩ := x_bif h
    cases (x_g_inv h)
  | putfield i =>
    obtain ⟨_, _, _, _, _, h⟩ := x_pf_inv (show x_pf x y pc ls st w = _ from he)
    rcases h with ⟨_, h⟩ | ⟨_, h⟩ <;> cases h
  | iaload =>
    obtain ⟨_, _, _, _, _, h⟩ := x_iald_inv (show x_iald k pc ls st w = _ from he)
    rcases h with ⟨_, h⟩ | ⟨_, h⟩ <;> cases h
  | iastore =>
    obtain ⟨_, _, _, _, _, _, _, h⟩ := x_iast_inv (show x_iast pc ls st w = _ from he)
    cases h
  | aaload =>
    obtain ⟨_, _, _, _, h⟩ := x_aald_inv (show x_aald pc ls st w = _ from he)
    cases h
  | arraylength =>
    have he : x_alen k pc ls st w = some (.inr (.inr q)) := he
    unfold x_alen at he
    obtain ⟨c1, a1, q1, -, h⟩ := x_pa_inv he
    cases hc : Nat.beq c1 51 with
    | true => rw [hc] at h; cases (x_o_inv h)
    | false => rw [hc] at h; obtain ⟨_, h⟩ := x_bif h; cases (x_g_inv h)
  | _ =>
    exfalso
    first
      | (cases he; done)
      | (cases (x_g_inv he); done)
      | (obtain ⟨_, _, _, _, h⟩ := x_p2_inv he; first | (cases (x_g_inv h); done) | (cases (x_o_inv h); done))
      | (obtain ⟨_, _, _, h⟩ := x_p1_inv he; cases (x_g_inv h); done)
      | (obtain ⟨_, _, _, _, h⟩ := x_q2_inv he; first | (cases (x_g_inv h); done) | (cases (x_o_inv h); done))
set_option maxHeartbeats 4000000 in
theorem x_runC {g : xG} {A : Nat → Prop} {k d : Nat} {p : Program} {l : Launch} {e0 : Env} {R : Room} {s : State} {m : MethodId} {args : Array Value} {below : List Frame} {meth : Method} {c : Code} {cells slots : Nat} (C : xCx g A k (d + 1) p R s m args c cells slots)
    {pc : Nat} {r : xRow} (hr : x_tb k pc = some r) {ls st : List xMV} {w : xWd} {y : Nat} {as rst : List xMV} (he : x_eff r (d + 1) k pc ls st w = some (.inr (.inr (.inl (y, as, rst)))))
    {Q' : xMV → xWd → Prop} {H : Heap} {locs : List Loc} {als : Array Slot} (hp : xPt g A s w H locs) (hl : xLR g k ls als) (hs : xSR st)
    (hM : 0 < y → y < 169 → xSR as → x_catS as ≤ x_nl y → xMet l g d y as w Q') :
    st = as.reverse ++ rst ∧ va_Run p l e0 R s m args below meth c H locs cells slots 0 0 (F0 m pc als (st.map (x_rv g))) (rst.map (x_rv g)) (xQC g (x_mt y).2.2.2.1 Q' (va_A (x_wl g w) H.size) (as.map (x_rv g)).toArray) (va_A (x_wl g w) H.size) := by
  obtain ⟨hx, hb, hml, hown, hts, hKW, hA, hcs, hR, hX⟩ := C
  obtain ⟨hd, hw⟩ := x_row hr
  obtain ⟨ins, x, y0, z⟩ := r
  cases ins with
  | invokevirtual i =>
    have he : x_clv x (x_rev st y0 []) = some (.inr (.inr (.inl (y, as, rst)))) := he
    unfold x_clv at he
    split at he
    · rename_i q as1 rst1 hrev
      obtain ⟨hq, he⟩ := x_bif he
      unfold x_cl at he
      dsimp only at he
      obtain ⟨hcat, he⟩ := x_bif he
      rw [Bool.and_eq_true] at hcat
      have e1 := Option.some.inj he
      simp only [Sum.inr.injEq, Sum.inl.injEq, Prod.mk.injEq] at e1
      obtain ⟨rfl, rfl, rfl⟩ := e1
      obtain ⟨hlen, hst⟩ := x_rev_inv0 hrev
      obtain ⟨c1, a1⟩ := q
      have hq : c1 = x_mc x := x_beq hq
      have hw : (decide (0 < x) && decide (x < 169) && decide (x_mc x < 8) && decide (y0 = (x_mt x).2.2.2.2.2 + 1) && decide (lw_tbl[z]? = some (Cond.methodLink (x_mt k).1.cls i (x_mt x).1))) = true := hw
      simp only [Bool.and_eq_true, decide_eq_true_eq] at hw
      obtain ⟨⟨⟨⟨h0, h169⟩, hc8⟩, hy0⟩, hlk⟩ := hw
      have hsa : xSR (some (Sum.inr (Sum.inr (c1, a1))) :: as1) := fun v hv => hs v (by rw [hst]; exact List.mem_append_left _ (List.mem_reverse.mpr hv))
      have hMM := hM h0 h169 hsa (x_ble hcat.2)
      have hok := x_mok h0 h169
      obtain ⟨ok1, ok2, ⟨ok3, ok4, ok5, ok6, ok7⟩, ok8⟩ := id hok
      have hmc : x_mc x = (x_mt x).2.2.2.2.1 := rfl
      rcases ok8 with ⟨e99, -⟩ | ⟨-, okc, oki, oks⟩
      · rw [hmc, e99] at hc8; omega
      have hc18 : c1 < 8 := by rw [hq]; exact hc8
      have hcell := x_vokA (hsa _ List.mem_cons_self) (by omega : c1 ≠ 51)
      obtain ⟨q0, -, he0⟩ := x_wl_at (g := g) (w := w) hcell
      rw [x_ce_obj hc18] at he0
      obtain ⟨hcl, -⟩ := x_cls_at c1 hc18
      have hcn : (x_cn c1).1 = (x_mt x).1.cls := by
        rw [← hmc, ← hq, hcl] at okc
        exact Option.some.inj okc
      have hrecv := va_recv hKW.1 hp.1 hcl he0
      rw [hcn] at hrecv
      have hsl : x_catS rst1 ≤ 8 := x_ble hcat.1
      refine ⟨hst, ?_⟩
      refine va_runV (As := as1.map (x_rv g)) (b := g.2.1 a1) (nL := x_nl k) (n := (x_mt x).2.2.2.2.2) (maxL := (x_mt x).2.2.1) (bytes := (x_mt x).2.1) (ret := (x_mt x).2.2.2.1) (C := (x_mt x).1.cls) (index := i) (own := (x_mt k).1.cls) ⟨hx, hb, hml, hown, hts⟩ (hMM H.size) (cwV _ hts (x_GI ?_) rfl rfl rfl ⟨rfl, ok4, ok5, ok6⟩ ⟨hR.1, ?_⟩) ⟨xPc_blind, hrecv, fun U hU hW => xPc_at hp hKW hU hW⟩ rfl ?_ hl.2.1 ?_ (lv_room (by rw [x_catS_map]; exact hsl)) hd hcs
      · intro wd hwd
        simp only [wsV, List.cons_append, List.nil_append, List.mem_cons] at hwd
        rcases hwd with rfl | rfl | rfl | rfl | hwd
        · exact x_gw_mem (List.mem_of_getElem? hlk) rfl
        · exact x_gw_mem oki rfl
        · exact x_gw_mem oks rfl
        · exact x_gw_mem ok2 rfl
        · exact x_ws_in hok wd hwd
      · have h1 := hR.2
        show 8 + ((x_mt x).2.2.1 + 11) + 30 * d ≤ R.locals
        omega
      · rw [List.length_map]
        rw [List.length_cons] at hlen
        omega
      · show st.map (x_rv g) = _
        rw [hst, List.map_append, List.reverse_cons, List.map_append, List.map_reverse, List.append_assoc]
        rfl
    · cases he
  | invokestatic i =>
    have he : x_ist (d + 1) x y0 pc ls st w = some (.inr (.inr (.inl (y, as, rst)))) := he
    have hw : (if x = 9999 then decide (lw_tbl[z]? = some (Cond.methodLink (x_mt k).1.cls i arraycopyName))
      else if x = 9998 then decide (lw_tbl[z]? = some (Cond.methodLink (x_mt k).1.cls i Lib.Math.max.name))
      else if x = 9997 then decide (lw_tbl[z]? = some (Cond.methodLink (x_mt k).1.cls i Lib.Math.min.name))
      else decide (0 < x) && decide (x < 169) && decide (x_mc x = 99) && decide (y0 = (x_mt x).2.2.2.2.2) && (decide (lw_tbl[z]? = some (Cond.methodLink (x_mt k).1.cls i (x_mt x).1)) || decide (lw_tbl[z]? = some (Cond.methodLinkNest (x_mt k).1.cls i (x_mt x).1 "ValuePlaces")))) = true := hw
    have h9 := x_ist_inv he
    have n1 : x ≠ 9999 := by
      rintro rfl
      rcases h9 with ⟨-, n, dp, c1, a1, sp, c0, a0, -, h⟩ | ⟨h, -⟩ | ⟨h, -⟩ | -
      · cases h
      · cases h
      · cases h
      · unfold x_ist at he
        rw [show Nat.beq 9999 9999 = true from rfl] at he
        dsimp only [cond_true] at he
        split at he <;> cases he
    have n2 : x ≠ 9998 := by
      rintro rfl
      unfold x_ist at he
      rw [show Nat.beq 9998 9999 = false from rfl, show Nat.beq 9998 9998 = true from rfl] at he
      dsimp only [cond_true, cond_false] at he
      obtain ⟨a, b, r, -, he⟩ := x_p2_inv he
      obtain ⟨-, he⟩ := x_bif he
      cases he
    have n3 : x ≠ 9997 := by
      rintro rfl
      unfold x_ist at he
      rw [show Nat.beq 9997 9999 = false from rfl, show Nat.beq 9997 9998 = false from rfl, show Nat.beq 9997 9997 = true from rfl] at he
      dsimp only [cond_true, cond_false] at he
      obtain ⟨a, b, r, -, he⟩ := x_p2_inv he
      obtain ⟨-, he⟩ := x_bif he
      cases he
    rw [if_neg n1, if_neg n2, if_neg n3] at hw
    unfold x_ist at he
    have b1 : Nat.beq x 9999 = false := by cases hb1 : Nat.beq x 9999 with | true => exact absurd (x_beq hb1) n1 | false => rfl
    have b2 : Nat.beq x 9998 = false := by cases hb1 : Nat.beq x 9998 with | true => exact absurd (x_beq hb1) n2 | false => rfl
    have b3 : Nat.beq x 9997 = false := by cases hb1 : Nat.beq x 9997 with | true => exact absurd (x_beq hb1) n3 | false => rfl
    rw [b1, b2, b3] at he
    dsimp only [cond_true, cond_false] at he
    unfold x_cl at he
    split at he
    · cases he
    · rename_i as1 rst1 hrev
      obtain ⟨hcat, he⟩ := x_bif he
      rw [Bool.and_eq_true] at hcat
      have e1 := Option.some.inj he
      simp only [Sum.inr.injEq, Sum.inl.injEq, Prod.mk.injEq] at e1
      obtain ⟨rfl, rfl, rfl⟩ := e1
      obtain ⟨hlen, hst⟩ := x_rev_inv0 hrev
      rw [Bool.and_eq_true, Bool.and_eq_true, Bool.and_eq_true, Bool.and_eq_true, Bool.or_eq_true] at hw
      obtain ⟨⟨⟨⟨h0, h169⟩, hc99⟩, hy0⟩, hlk⟩ := hw
      have h0 := of_decide_eq_true h0
      have h169 := of_decide_eq_true h169
      have hc99 : x_mc x = 99 := of_decide_eq_true hc99
      have hy0 := of_decide_eq_true hy0
      have hsa : xSR as1 := fun v hv => hs v (by rw [hst]; exact List.mem_append_left _ (List.mem_reverse.mpr hv))
      have hMM := hM h0 h169 hsa (x_ble hcat.2)
      have hok := x_mok h0 h169
      obtain ⟨ok1, ok2, ⟨ok3, ok4, ok5, ok6, ok7⟩, ok8⟩ := id hok
      have hmc : x_mc x = (x_mt x).2.2.2.2.1 := rfl
      have okst : Cond.static (x_mt x).1 ∈ lw_tbl := by
        rcases ok8 with ⟨-, okst⟩ | ⟨e8, -⟩
        · exact okst
        · rw [← hmc, hc99] at e8; omega
      have hsl : x_catS rst1 ≤ 8 := x_ble hcat.1
      have hlo : 8 + ((x_mt x).2.2.1 + 11) + (x_rm d).locals ≤ R.locals := by
        have h1 := hR.2
        show 8 + ((x_mt x).2.2.1 + 11) + 30 * d ≤ R.locals
        omega
      refine ⟨hst, ?_⟩
      have hst2 : (F0 m pc als (st.map (x_rv g))).stack = (as1.map (x_rv g)).reverse ++ rst1.map (x_rv g) := by
        show st.map (x_rv g) = _
        rw [hst, List.map_append, List.map_reverse]
      rcases hlk with hlk | hlk
      · refine va_runS (As := as1.map (x_rv g)) (nL := x_nl k) (n := (x_mt x).2.2.2.2.2) (maxL := (x_mt x).2.2.1) (bytes := (x_mt x).2.1) (ret := (x_mt x).2.2.2.1) (index := i) (own := (x_mt k).1.cls) ⟨hx, hb, hml, hown, hts⟩ (hMM H.size) (va_cwS _ hts (x_GI ?_) rfl rfl rfl ⟨ok4, ok5, ok6⟩ ⟨hR.1, hlo⟩) ⟨xPc_blind, fun U hU hW => xPc_at hp hKW hU hW⟩ rfl (by rw [List.length_map]; omega) hl.2.1 hst2 (lv_room (by rw [x_catS_map]; exact hsl)) hd hcs
        intro wd hwd
        simp only [va_wsS, List.cons_append, List.nil_append, List.mem_cons] at hwd
        rcases hwd with rfl | rfl | rfl | hwd
        · exact x_gw_mem (List.mem_of_getElem? (of_decide_eq_true hlk)) rfl
        · exact x_gw_mem okst rfl
        · exact x_gw_mem ok2 rfl
        · exact x_ws_in hok wd hwd
      · have hnest := hKW.2 _ (x_nest h169 (of_decide_eq_true hlk))
        exact va_runSN (As := as1.map (x_rv g)) (nL := x_nl k) (n := (x_mt x).2.2.2.2.2) (maxL := (x_mt x).2.2.1) (bytes := (x_mt x).2.1) (ret := (x_mt x).2.2.2.1) (index := i) (own := (x_mt k).1.cls) ⟨hx, hb, hml, hown, hts⟩ (hMM H.size) ⟨va_cnB _ hts (x_GI (x_ws_in hok)) rfl rfl rfl hnest (hts _ (x_gw_mem ok2 rfl)) ⟨ok4, ok5, ok6⟩ ⟨hR.1, hlo⟩, hts _ (x_gw_mem okst rfl), trivial⟩ ⟨xPc_blind, fun U hU hW => xPc_at hp hKW hU hW⟩ rfl (by rw [List.length_map]; omega) hl.2.1 hst2 (lv_room (by rw [x_catS_map]; exact hsl)) hd hcs
  | ireturn =>
    exfalso
    have he : x_iret x st = some (.inr (.inr (.inl (y, as, rst)))) := he
    unfold x_iret at he
    split at he
    · split at he <;> cases he
    · cases he
  | lreturn =>
    exfalso
    unfold x_eff at he
    dsimp only at he
    split at he <;> cases he
  | return_ =>
    exfalso
    unfold x_eff at he
    dsimp only at he
    split at he <;> cases he
  | _ => 
    exfalso
    rcases x_ins_inv he with ⟨i, h⟩ | ⟨i, h⟩ | h | h | h <;> cases h
theorem x_A_in {g : xG} {A : Nat → Prop} {s : State} {w : xWd} {H : Heap} {locs : List Loc} (hp : xPt g A s w H locs) (hA : ∀ q, s.heap.size ≤ q → A q) : ∀ q, va_A (x_wl g w) H.size q → A q := by
  intro q hq
  rcases hq with ⟨k, e, hk⟩ | hq
  · exact hp.2.1.2 k _ hk
  · exact hA q (Nat.le_trans hp.2.2.1.1 hq)
set_option maxHeartbeats 4000000 in
theorem x_stepC {g : xG} {A : Nat → Prop} {k d : Nat} {p : Program} {l : Launch} {e0 : Env} {R : Room} {s : State} {m : MethodId} {args : Array Value} {below : List Frame} {meth : Method} {c : Code} {cells slots : Nat} {Q : State → Prop} (C : xCx g A k (d + 1) p R s m args c cells slots)
    {pc : Nat} {r : xRow} (hr : x_tb k pc = some r) {ls st : List xMV} {w : xWd} {y : Nat} {as rst : List xMV} (he : x_eff r (d + 1) k pc ls st w = some (.inr (.inr (.inl (y, as, rst)))))
    {Q' : xMV → xWd → Prop} (hM : 0 < y → y < 169 → xSR as → x_catS as ≤ x_nl y → xMet l g d y as w Q')
    (hk : ∀ a w', Q' a w' → xW g A k p l e0 R s m args below meth c cells slots Q (pc + 3) ls (x_pu a rst) w') : xW g A k p l e0 R s m args below meth c cells slots Q pc ls st w := by
  intro H locs als hp hl hs
  obtain ⟨hst, hrun⟩ := x_runC (e0 := e0) (below := below) (meth := meth) C hr he hp hl hs hM
  have hsr : xSR rst := fun v hv => hs v (by rw [hst]; exact List.mem_append_right _ hv)
  obtain ⟨-, -, -, -, -, -, hA, -⟩ := C
  have hF := x_A_in hp hA
  cases hret : (x_mt y).2.2.2.1 with
  | none =>
    rw [hret] at hrun
    refine va_callv (a := (as.map (x_rv g)).toArray) (S := xWd) (post := fun u => Q' xU u) (B := xB g (va_A (x_wl g w) H.size)) hrun hp.2.2.1 (fun q _ h => hF q h) hF (fun u t H1 locs1 ht hvm hw hB hz1 hk1 hS1 => ?_)
    exact hk xU u hw H1 locs1 als ⟨by rw [← ht]; exact hB.1, x_wl_D hp.2.1, hS1, hB.2.2.2⟩ hl hsr
  | some ty =>
    have hi : xQC g (some ty) Q' (va_A (x_wl g w) H.size) = va_Qi (fun a (u : xWd) => Q' (xI a) u) (xB g (va_A (x_wl g w) H.size)) (va_A (x_wl g w) H.size) → W p l e0 R s m args below meth c H locs cells slots Q (F0 m pc als (st.map (x_rv g))) := by
      intro hq
      rw [hret, hq] at hrun
      refine va_calli (a := (as.map (x_rv g)).toArray) (S := xWd) hrun hp.2.2.1 (fun q _ h => hF q h) hF (fun a u t H1 locs1 ht hvm hw hB hz1 hk1 hS1 => ?_)
      exact hk (xI a) u hw H1 locs1 als ⟨by rw [← ht]; exact hB.1, x_wl_D hp.2.1, hS1, hB.2.2.2⟩ hl (xSR.cons hsr trivial)
    cases ty with
    | long =>
      rw [hret] at hrun
      refine va_calll (a := (as.map (x_rv g)).toArray) (S := xWd) (post := fun a u => Q' (xJ a) u) (B := xB g (va_A (x_wl g w) H.size)) hrun hp.2.2.1 (fun q _ h => hF q h) hF (fun a u t H1 locs1 ht hvm hw hB hz1 hk1 hS1 => ?_)
      exact hk (xJ a) u hw H1 locs1 als ⟨by rw [← ht]; exact hB.1, x_wl_D hp.2.1, hS1, hB.2.2.2⟩ hl (xSR.cons hsr trivial)
    | _ => exact hi rfl
/-- how a method stands at its end: its answer on the stack, at a return of its kind -/
def xRet (k pc : Nat) (a : xMV) (st : List xMV) : Prop :=
  (∃ v, a = xI v ∧ st = [xI v] ∧ decode (x_mt k).2.1 pc = .ok (.ireturn, 1) ∧ ((x_mt k).2.2.2.1 = some .int ∨ ((x_mt k).2.2.2.1 = some .boolean ∧ (v = 0 ∨ v = 1)))) ∨
  (∃ v, a = xJ v ∧ st = [xJ v] ∧ decode (x_mt k).2.1 pc = .ok (.lreturn, 1) ∧ (x_mt k).2.2.2.1 = some .long) ∨
  (a = xU ∧ st = [] ∧ decode (x_mt k).2.1 pc = .ok (.return_, 1) ∧ (x_mt k).2.2.2.1 = none)
theorem x_stepR {k d pc : Nat} {r : xRow} (hr : x_tb k pc = some r) {ls st : List xMV} {w : xWd} {P : Prop} {a : xMV} (he : x_eff r d k pc ls st w = some (.inr (.inr (.inr (P, a))))) (hP : P) : xRet k pc a st := by
  obtain ⟨hd, hw⟩ := x_row hr
  obtain ⟨ins, x, y, z⟩ := r
  rcases x_ins_inv he with ⟨i, h⟩ | ⟨i, h⟩ | h | h | h
  · dsimp only at h
    subst h
    have he : x_clv x (x_rev st y []) = some (.inr (.inr (.inr (P, a)))) := he
    unfold x_clv at he
    split at he
    · obtain ⟨-, he⟩ := x_bif he
      unfold x_cl at he
      dsimp only at he
      obtain ⟨-, he⟩ := x_bif he
      cases he
    · cases he
  · dsimp only at h
    subst h
    have he : x_ist d x y pc ls st w = some (.inr (.inr (.inr (P, a)))) := he
    unfold x_ist at he
    cases h1 : Nat.beq x 9999 with
    | true =>
      rw [h1] at he
      dsimp only [cond_true] at he
      split at he <;> cases he
    | false =>
      rw [h1] at he
      cases h2 : Nat.beq x 9998 with
      | true =>
        rw [h2] at he
        dsimp only [cond_true, cond_false] at he
        obtain ⟨_, _, _, _, he⟩ := x_p2_inv he
        obtain ⟨-, he⟩ := x_bif he
        cases he
      | false =>
        rw [h2] at he
        cases h3 : Nat.beq x 9997 with
        | true =>
          rw [h3] at he
          dsimp only [cond_true, cond_false] at he
          obtain ⟨_, _, _, _, he⟩ := x_p2_inv he
          obtain ⟨-, he⟩ := x_bif he
          cases he
        | false =>
          rw [h3] at he
          dsimp only [cond_true, cond_false] at he
          unfold x_cl at he
          split at he
          · cases he
          · obtain ⟨-, he⟩ := x_bif he
            cases he
  · dsimp only at h
    subst h
    left
    have he : x_iret x st = some (.inr (.inr (.inr (P, a)))) := he
    have hw : ((decide (x = 0) && decide ((x_mt k).2.2.2.1 = some .int)) || (decide (x = 1) && decide ((x_mt k).2.2.2.1 = some .boolean))) = true := hw
    rw [Bool.or_eq_true, Bool.and_eq_true, Bool.and_eq_true] at hw
    unfold x_iret at he
    split at he
    · split at he
      · have e1 := Option.some.inj he
        simp only [Sum.inr.injEq, Prod.mk.injEq] at e1
        obtain ⟨-, rfl⟩ := e1
        refine ⟨_, rfl, rfl, hd, ?_⟩
        rcases hw with ⟨-, h⟩ | ⟨h, -⟩
        · exact Or.inl (of_decide_eq_true h)
        · exact absurd (of_decide_eq_true h) (by omega)
      · rename_i hx0
        have e1 := Option.some.inj he
        simp only [Sum.inr.injEq, Prod.mk.injEq] at e1
        obtain ⟨rfl, rfl⟩ := e1
        refine ⟨_, rfl, rfl, hd, ?_⟩
        rcases hw with ⟨h, -⟩ | ⟨-, h⟩
        · exact absurd (of_decide_eq_true h) (fun q => hx0 q)
        · exact Or.inr ⟨of_decide_eq_true h, hP⟩
    · cases he
  · dsimp only at h
    subst h
    right; left
    have hw : decide ((x_mt k).2.2.2.1 = some .long) = true := hw
    unfold x_eff at he
    dsimp only at he
    split at he
    · have e1 := Option.some.inj he
      simp only [Sum.inr.injEq, Prod.mk.injEq] at e1
      obtain ⟨-, rfl⟩ := e1
      exact ⟨_, rfl, rfl, hd, of_decide_eq_true hw⟩
    · cases he
  · dsimp only at h
    subst h
    right; right
    have hw : decide ((x_mt k).2.2.2.1 = none) = true := hw
    unfold x_eff at he
    dsimp only at he
    split at he
    · have e1 := Option.some.inj he
      simp only [Sum.inr.injEq, Prod.mk.injEq] at e1
      obtain ⟨-, rfl⟩ := e1
      exact ⟨rfl, rfl, hd, of_decide_eq_true hw⟩
    · cases he
