/-! a method's entry -/
theorem x_lay_len : ∀ (as : List xMV), (x_lay as).length = x_catS as
  | [] => rfl
  | v :: r => by
    have ih := x_lay_len r
    rcases v with _ | v | v | v
    · show (x_lay r).length + 1 = 1 + x_catS r; omega
    · show (x_lay r).length + 1 = 1 + x_catS r; omega
    · show (x_lay r).length + 1 + 1 = 2 + x_catS r; omega
    · show (x_lay r).length + 1 = 1 + x_catS r; omega
theorem x_pad_len : ∀ (l : List xMV) (n : Nat), l.length ≤ n → (x_pad l n).length = n
  | [], 0, _ => rfl
  | [], n + 1, _ => by
    have ih := x_pad_len [] n (Nat.zero_le _)
    show (x_pad [] n).length + 1 = n + 1
    omega
  | a :: r, 0, h => by simp at h
  | a :: r, n + 1, h => by
    have ih := x_pad_len r n (by simpa using h)
    show (x_pad r n).length + 1 = n + 1
    omega
theorem x_pad_at : ∀ (l : List xMV) (n i : Nat) (u : Int32 ⊕ (Int64 ⊕ (Nat × Nat))), (x_pad l n)[i]? = some (some u) → l[i]? = some (some u)
  | [], 0, i, u, h => h
  | [], n + 1, 0, u, h => by
    have h : some (none : xMV) = some (some u) := h
    cases h
  | [], n + 1, i + 1, u, h => by
    have h1 := x_pad_at [] n i u (by simpa [x_pad] using h)
    simp at h1
  | a :: r, 0, i, u, h => h
  | a :: r, n + 1, 0, u, h => by simpa [x_pad] using h
  | a :: r, n + 1, i + 1, u, h => by
    have h1 := x_pad_at r n i u (by simpa [x_pad] using h)
    simpa using h1
theorem x_lay_args {g : xG} : ∀ (as : List xMV) (off i : Nat) (u : Int32 ⊕ (Int64 ⊕ (Nat × Nat))), (x_lay as)[i]? = some (some u) → (off + i, x_rv g (some u)) ∈ lv_args off (as.map (x_rv g)) ∧ some u ∈ as
  | [], off, i, u, h => by simp [x_lay] at h
  | v :: r, off, i, u, h => by
    have one : x_lay (v :: r) = v :: x_lay r → (x_rv g v).category ≠ 2 → (off + i, x_rv g (some u)) ∈ lv_args off ((v :: r).map (x_rv g)) ∧ some u ∈ v :: r := by
      intro e hc
      rw [e] at h
      rw [List.map_cons]
      unfold lv_args
      rw [if_neg hc]
      cases i with
      | zero =>
        have h1 : v = some u := by simpa using h
        subst h1
        exact ⟨List.mem_cons_self, List.mem_cons_self⟩
      | succ i =>
        have h1 : (x_lay r)[i]? = some (some u) := by simpa using h
        obtain ⟨a1, a2⟩ := x_lay_args r (off + 1) i u h1
        exact ⟨List.mem_cons_of_mem _ (by rw [show off + (i + 1) = off + 1 + i by omega]; exact a1), List.mem_cons_of_mem _ a2⟩
    rcases v with _ | v | v | v
    · exact one rfl (by simp [x_rv, Value.category])
    · exact one rfl (by simp [x_rv, Value.category])
    · have e : x_lay (some (Sum.inr (Sum.inl v)) :: r) = some (Sum.inr (Sum.inl v)) :: none :: x_lay r := rfl
      rw [e] at h
      rw [List.map_cons]
      unfold lv_args
      rw [if_pos (show (x_rv g (some (Sum.inr (Sum.inl v)))).category = 2 from rfl)]
      match i, h with
      | 0, h =>
        have h1 : (some (Sum.inr (Sum.inl v)) : xMV) = some u := by simpa using h
        cases h1
        exact ⟨List.mem_cons_self, List.mem_cons_self⟩
      | 1, h => simp at h
      | i + 2, h =>
        have h1 : (x_lay r)[i]? = some (some u) := by simpa using h
        obtain ⟨a1, a2⟩ := x_lay_args r (off + 2) i u h1
        exact ⟨List.mem_cons_of_mem _ (by rw [show off + (i + 2) = off + 2 + i by omega]; exact a1), List.mem_cons_of_mem _ a2⟩
    · exact one rfl (by simp [x_rv, Value.category])
theorem x_sl_len {g : xG} : ∀ (as : List xMV), (lg_sl (as.map (x_rv g))).length = x_catS as
  | [] => rfl
  | v :: r => by
    have ih := x_sl_len (g := g) r
    unfold lg_sl at ih ⊢
    rw [List.map_cons, List.flatMap_cons, List.length_append, ih]
    rcases v with _ | v | v | v <;> rfl
theorem x_ent_LR {g : xG} {k : Nat} {as : List xMV} (hs : xSR as) (hc : x_catS as ≤ x_nl k) : xLR g k (x_ent k as) ((lg_sl (as.map (x_rv g)) ++ List.replicate (x_nl k - (lg_sl (as.map (x_rv g))).length) Slot.unset).toArray) := by
  have h := lv_entry (as.map (x_rv g)) (n := x_nl k) (by rw [x_sl_len]; exact hc)
  refine ⟨x_pad_len _ _ (by rw [x_lay_len]; exact hc), h.1, h.2.1, fun i u hi => ?_⟩
  obtain ⟨a1, a2⟩ := x_lay_args (g := g) as 0 i u (x_pad_at _ _ _ _ hi)
  rw [Nat.zero_add] at a1
  exact ⟨h.2.2 _ a1, hs _ a2⟩
def xSound (l : Launch) (g : xG) (n : Nat) : Prop := ∀ (d k pc : Nat) (ls st : List xMV) (w : xWd) (Q' : xMV → xWd → Prop), xwp n d k pc ls st w Q' →
  ∀ (A : Nat → Prop) (p : Program) (e0 : Env) (R : Room) (s : State) (m : MethodId) (args : Array Value) (below : List Frame) (meth : Method) (c : Code) (cells slots : Nat) (Q : State → Prop), xCx g A k d p R s m args c cells slots →
  (∀ (a : xMV) (w' : xWd) (pc' : Nat) (ls' st' : List xMV), Q' a w' → xRet k pc' a st' → xW g A k p l e0 R s m args below meth c cells slots Q pc' ls' st' w') → xW g A k p l e0 R s m args below meth c cells slots Q pc ls st w
set_option maxHeartbeats 4000000 in
theorem x_con {l : Launch} {g : xG} {n : Nat} (hS : xSound l g n) {d k : Nat} {as : List xMV} {w : xWd} {Q' : xMV → xWd → Prop} (h : xwp n d k 0 (x_ent k as) [] w Q') (h0 : 0 < k) (h169 : k < 169) (hs : xSR as) (hc : x_catS as ≤ x_nl k) : xMet l g d k as w Q' := by
  intro sz
  have hok := x_mok h0 h169
  obtain ⟨ok1, ok2, ⟨ok3, -⟩, -⟩ := id hok
  refine Met.ofW (cc := (x_mt k).2.1) (maxL := (x_mt k).2.2.1) (ret := (x_mt k).2.2.2.1) ok3 rfl ?_
  intro p e s m args below meth c s₁ B hml hv
  obtain ⟨rfl, hsz, hP, hK, hD0, hw0, hw4⟩ := hv
  subst hsz
  have hx := B.exec
  have hb := B.bytes
  have hr := B.returns
  have hts0 := atoms_spec (ws := x_ws k) B.pre
  have hts : ∀ w ∈ x_gw, w.before (as.map (x_rv g)).toArray s = true := fun w hw => hts0 w (List.mem_cons_of_mem _ hw)
  have hown : s.vm.findClass (x_mt k).1.cls = some m.cls := findClass_of_methodNamed B.named
  have hlocks := B.notSynchronized
  rw [lg_entry_eq]
  refine hS d k 0 (x_ent k as) [] w Q' h (va_A (x_wl g w) s.heap.size) p e _ s m _ below meth c 0 0 _ ⟨hx, hb, hml, hown, hts, hK, fun q hq => Or.inr hq, ⟨Nat.zero_le _, Nat.zero_le _⟩, ⟨Nat.le_refl _, Nat.le_refl _⟩, fun q => by omega⟩ ?_ s.heap [] _ ⟨hP, hD0.self, va_S.rf, hw0, hw4⟩ (x_ent_LR hs hc) (fun _ q => by cases q)
  intro a w' pc' ls' st' hq hret H locs als hp hl hs'
  have hB : ∀ t : State, t.heap = H → s.WarmedH t.vm → xB g (va_A (x_wl g w) s.heap.size) w' t := fun t ht hW => ⟨by rw [ht]; exact hp.1, hK.warm hW, hp.2.1, hp.2.2.2.1, hp.2.2.2.2⟩
  rcases hret with ⟨v, rfl, rfl, hd, hty⟩ | ⟨v, rfl, rfl, hd, hty⟩ | ⟨rfl, rfl, hd, hty⟩
  · rcases hty with hty | ⟨hty, hv⟩
    · rw [hty] at hr ⊢
      exact W.iret (v := v) hx hb hr (fun t ht hW => ⟨⟨v, w', rfl, hq, hB t ht hW⟩, hp.2.2.1.F ht⟩) hp.2.2.1.2.2 hd
    · rw [hty] at hr ⊢
      exact W.zret (v := v) hx hb hr (by rcases hv with rfl | rfl <;> rfl) (fun t ht hW => ⟨⟨v, w', rfl, hq, hB t ht hW⟩, hp.2.2.1.F ht⟩) hp.2.2.1.2.2 hd
  · rw [hty] at hr ⊢
    exact W.lret (v := v) hx hb hr (fun t ht hW => ⟨⟨v, w', rfl, hq, hB t ht hW⟩, hp.2.2.1.F ht⟩) hp.2.2.1.2.2 hd
  · rw [hty] at hr ⊢
    exact W.vret hx hb hr (fun t ht hW => ⟨⟨w', rfl, hq, hB t ht hW⟩, hp.2.2.1.F ht⟩) hp.2.2.1.2.2 hd
set_option maxHeartbeats 4000000 in
/-- what the small machine comes to, the machine comes to -/
theorem x_sound (l : Launch) (g : xG) : ∀ n : Nat, xSound l g n := by
  intro n
  induction n with
  | zero => intro d k pc ls st w Q' h; exact h.elim
  | succ n ih =>
    intro d k pc ls st w Q' h A p e0 R s m args below meth c cells slots Q C hret
    unfold xwp at h
    cases h1 : x_tb k pc with
    | none => rw [h1] at h; exact h.elim
    | some r =>
      rw [h1] at h
      dsimp only at h
      cases h2 : x_eff r d k pc ls st w with
      | none => rw [h2] at h; exact h.elim
      | some e =>
        rw [h2] at h
        rcases e with s' | ⟨P, s'⟩ | ⟨y, as, rst⟩ | ⟨P, a⟩
        · refine x_step C h1 h2 (fun s2 e2 => ?_) (fun P s2 e2 => by cases e2) (fun q e2 => by cases e2)
          cases e2
          exact ih d k _ _ _ _ Q' h A p e0 R s m args below meth c cells slots Q C hret
        · refine x_step C h1 h2 (fun s2 e2 => by cases e2) (fun P s2 e2 => ?_) (fun q e2 => by cases e2)
          cases e2
          exact ⟨h.1, ih d k _ _ _ _ Q' h.2 A p e0 R s m args below meth c cells slots Q C hret⟩
        · cases d with
          | zero => exact h.elim
          | succ d =>
            exact x_stepC C h1 h2 (fun h0 h169 hs hc => x_con ih h h0 h169 hs hc) (fun a w' hq => ih (d + 1) k _ _ _ _ Q' hq A p e0 R s m args below meth c cells slots Q C hret)
        · exact hret a w pc ls st h.2 (x_stepR h1 h2 h.1)
