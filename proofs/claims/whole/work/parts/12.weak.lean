/-! locals may be forgotten -/
def x_le : List xMV → List xMV → Prop
  | [], [] => True
  | a :: r, b :: r' => (a = b ∨ (a = none ∧ x_cat b = 1)) ∧ x_le r r'
  | _, _ => False
theorem x_le_rf : ∀ l : List xMV, x_le l l
  | [] => trivial
  | _ :: r => ⟨Or.inl rfl, x_le_rf r⟩
theorem x_le_at : ∀ {l l' : List xMV} {i : Nat} {u : Int32 ⊕ (Int64 ⊕ (Nat × Nat))}, x_le l l' → l[i]? = some (some u) → l'[i]? = some (some u)
  | [], [], i, u, _, h => h
  | [], b :: r', _, _, h, _ => h.elim
  | a :: r, [], _, _, h, _ => h.elim
  | a :: r, b :: r', 0, u, h, e => by
    have e1 : a = some u := by simpa using e
    rcases h.1 with q | ⟨q, -⟩
    · rw [← q, e1]; rfl
    · rw [q] at e1; cases e1
  | a :: r, b :: r', i + 1, u, h, e => by
    have e1 : r[i]? = some (some u) := by simpa using e
    have := x_le_at h.2 e1
    simpa using this
theorem x_le_set : ∀ {l l' : List xMV} (i : Nat) (v : xMV), x_le l l' → x_le (l.set i v) (l'.set i v)
  | [], [], i, v, _ => trivial
  | [], b :: r', _, _, h => h.elim
  | a :: r, [], _, _, h => h.elim
  | a :: r, b :: r', 0, v, h => ⟨Or.inl rfl, h.2⟩
  | a :: r, b :: r', i + 1, v, h => ⟨h.1, x_le_set i v h.2⟩
theorem x_le_long : ∀ {l l' : List xMV} {i : Nat} {u : Int64}, x_le l l' → l'[i]? = some (xJ u) → l[i]? = some (xJ u)
  | [], [], i, u, _, h => h
  | [], b :: r', _, _, h, _ => h.elim
  | a :: r, [], _, _, h, _ => h.elim
  | a :: r, b :: r', 0, u, h, e => by
    have e1 : b = xJ u := by simpa using e
    rcases h.1 with q | ⟨-, q⟩
    · rw [q, e1]; rfl
    · rw [e1] at q; cases q
  | a :: r, b :: r', i + 1, u, h, e => by
    have e1 : r'[i]? = some (xJ u) := by simpa using e
    have := x_le_long h.2 e1
    simpa using this
theorem x_nlg_le {l l' : List xMV} (h : x_le l l') : ∀ i, x_nlg l i = true → x_nlg l' i = true
  | 0, _ => rfl
  | k + 1, hn => by
    have hn : (match l[k]? with
      | some (some (.inr (.inl _))) => false
      | _ => true) = true := hn
    show (match l'[k]? with
      | some (some (.inr (.inl _))) => false
      | _ => true) = true
    split
    · rename_i v hv
      have := x_le_long h hv
      rw [this] at hn
      exact hn
    · rfl
def x_er (e e' : xEff) : Prop :=
  (∃ pc ls ls' st w, e = .inl (pc, ls, st, w) ∧ e' = .inl (pc, ls', st, w) ∧ x_le ls ls') ∨
  (∃ P pc ls ls' st w, e = .inr (.inl (P, pc, ls, st, w)) ∧ e' = .inr (.inl (P, pc, ls', st, w)) ∧ x_le ls ls') ∨
  (∃ q, e = .inr (.inr q) ∧ e' = .inr (.inr q))
theorem x_er_g {pc : Nat} {ls ls' st : List xMV} {w : xWd} {e : xEff} (h : x_g pc ls st w = some e) (hl : x_le ls ls') : ∃ e', x_g pc ls' st w = some e' ∧ x_er e e' := ⟨_, rfl, Or.inl ⟨_, _, _, _, _, x_g_inv h, rfl, hl⟩⟩
theorem x_er_o {P : Prop} {pc : Nat} {ls ls' st : List xMV} {w : xWd} {e : xEff} (h : x_o P pc ls st w = some e) (hl : x_le ls ls') : ∃ e', x_o P pc ls' st w = some e' ∧ x_er e e' := ⟨_, rfl, Or.inr (Or.inl ⟨_, _, _, _, _, _, x_o_inv h, rfl, hl⟩)⟩
theorem x_er_bif {b : Bool} {x x' : Option xEff} {e : xEff} (h : (bif b then x else none) = some e) (k : x = some e → ∃ e', x' = some e' ∧ x_er e e') : ∃ e', (bif b then x' else none) = some e' ∧ x_er e e' := by
  obtain ⟨rfl, h⟩ := x_bif h
  exact k h
theorem x_er_sto1 {i pc : Nat} {ls ls' r : List xMV} {v : xMV} {w : xWd} {e : xEff} (h : x_sto1 i pc ls v r w = some e) (hl : x_le ls ls') : ∃ e', x_sto1 i pc ls' v r w = some e' ∧ x_er e e' := by
  obtain ⟨hn, rfl⟩ := x_sto1_inv h
  refine ⟨.inl (pc, ls'.set i v, r, w), ?_, Or.inl ⟨_, _, _, _, _, rfl, rfl, x_le_set i v hl⟩⟩
  unfold x_sto1
  rw [x_nlg_le hl i hn]; rfl
theorem x_er_sto2 {i pc : Nat} {ls ls' r : List xMV} {v : xMV} {w : xWd} {e : xEff} (h : x_sto2 i pc ls v r w = some e) (hl : x_le ls ls') : ∃ e', x_sto2 i pc ls' v r w = some e' ∧ x_er e e' := by
  obtain ⟨hn, rfl⟩ := x_sto2_inv h
  refine ⟨.inl (pc, (ls'.set i v).set (i + 1) none, r, w), ?_, Or.inl ⟨_, _, _, _, _, rfl, rfl, x_le_set _ _ (x_le_set i v hl)⟩⟩
  unfold x_sto2
  rw [x_nlg_le hl i hn]; rfl
theorem x_er_cl {y : Nat} {o : Option (List xMV × List xMV)} {e : xEff} (h : x_cl y o = some e) : x_er e e := by
  unfold x_cl at h
  split at h
  · cases h
  · obtain ⟨-, h⟩ := x_bif h
    exact Or.inr (Or.inr ⟨_, (Option.some.inj h).symm, (Option.some.inj h).symm⟩)
set_option maxHeartbeats 4000000 in
theorem x_eff_le {r : xRow} {d k pc : Nat} {ls ls' st : List xMV} {w : xWd} {e : xEff} (he : x_eff r d k pc ls st w = some e) (hl : x_le ls ls') : ∃ e', x_eff r d k pc ls' st w = some e' ∧ x_er e e' := by
  obtain ⟨ins, x, y, z⟩ := r
  cases ins with
  | iload_n i =>
    obtain ⟨v, hv, h⟩ := x_ldI_inv (show x_ldI ls i.val (fun v => x_g (pc + 1) ls (v :: st) w) = _ from he)
    obtain ⟨e', h1, h2⟩ := x_er_g h hl
    refine ⟨e', ?_, h2⟩
    show x_ldI ls' i.val (fun v => x_g (pc + 1) ls' (v :: st) w) = _
    unfold x_ldI; rw [x_le_at hl hv]; exact h1
  | iload i =>
    obtain ⟨v, hv, h⟩ := x_ldI_inv (show x_ldI ls i (fun v => x_g (pc + 2) ls (v :: st) w) = _ from he)
    obtain ⟨e', h1, h2⟩ := x_er_g h hl
    refine ⟨e', ?_, h2⟩
    show x_ldI ls' i (fun v => x_g (pc + 2) ls' (v :: st) w) = _
    unfold x_ldI; rw [x_le_at hl hv]; exact h1
  | lload_n i =>
    obtain ⟨v, hv, h⟩ := x_ldJ_inv (show x_ldJ ls i.val (fun v => x_g (pc + 1) ls (v :: st) w) = _ from he)
    obtain ⟨e', h1, h2⟩ := x_er_g h hl
    refine ⟨e', ?_, h2⟩
    show x_ldJ ls' i.val (fun v => x_g (pc + 1) ls' (v :: st) w) = _
    unfold x_ldJ; rw [x_le_at hl hv]; exact h1
  | lload i =>
    obtain ⟨v, hv, h⟩ := x_ldJ_inv (show x_ldJ ls i (fun v => x_g (pc + 2) ls (v :: st) w) = _ from he)
    obtain ⟨e', h1, h2⟩ := x_er_g h hl
    refine ⟨e', ?_, h2⟩
    show x_ldJ ls' i (fun v => x_g (pc + 2) ls' (v :: st) w) = _
    unfold x_ldJ; rw [x_le_at hl hv]; exact h1
  | aload_n i =>
    obtain ⟨c, a, hv, h⟩ := x_ldA_inv (show x_ldA ls i.val (fun v => x_g (pc + 1) ls (v :: st) w) = _ from he)
    obtain ⟨e', h1, h2⟩ := x_er_g h hl
    refine ⟨e', ?_, h2⟩
    show x_ldA ls' i.val (fun v => x_g (pc + 1) ls' (v :: st) w) = _
    unfold x_ldA; rw [x_le_at hl hv]; exact h1
  | aload i =>
    obtain ⟨c, a, hv, h⟩ := x_ldA_inv (show x_ldA ls i (fun v => x_g (pc + 2) ls (v :: st) w) = _ from he)
    obtain ⟨e', h1, h2⟩ := x_er_g h hl
    refine ⟨e', ?_, h2⟩
    show x_ldA ls' i (fun v => x_g (pc + 2) ls' (v :: st) w) = _
    unfold x_ldA; rw [x_le_at hl hv]; exact h1
  | istore_n i =>
    have he : x_stI i.val (pc + 1) ls st w = some e := he
    show ∃ e', x_stI i.val (pc + 1) ls' st w = some e' ∧ _
    unfold x_stI at he ⊢
    split at he
    · exact x_er_sto1 he hl
    · cases he
  | istore i =>
    have he : x_stI i (pc + 2) ls st w = some e := he
    show ∃ e', x_stI i (pc + 2) ls' st w = some e' ∧ _
    unfold x_stI at he ⊢
    split at he
    · exact x_er_sto1 he hl
    · cases he
  | astore_n i =>
    have he : x_stA i.val (pc + 1) ls st w = some e := he
    show ∃ e', x_stA i.val (pc + 1) ls' st w = some e' ∧ _
    unfold x_stA at he ⊢
    split at he
    · exact x_er_sto1 he hl
    · cases he
  | astore i =>
    have he : x_stA i (pc + 2) ls st w = some e := he
    show ∃ e', x_stA i (pc + 2) ls' st w = some e' ∧ _
    unfold x_stA at he ⊢
    split at he
    · exact x_er_sto1 he hl
    · cases he
  | lstore i =>
    have he : x_stJ i (pc + 2) ls st w = some e := he
    show ∃ e', x_stJ i (pc + 2) ls' st w = some e' ∧ _
    unfold x_stJ at he ⊢
    split at he
    · exact x_er_sto2 he hl
    · cases he
  | iinc i v =>
    unfold x_eff at he ⊢
    dsimp only at he ⊢
    split at he
    · rename_i v1 hv
      rw [x_le_at hl hv]
      exact x_er_sto1 he hl
    · cases he
  | dup =>
    unfold x_eff at he ⊢
    dsimp only at he ⊢
    split at he
    · exact x_er_g he hl
    · exact x_er_g he hl
    · cases he
  | dup2 =>
    unfold x_eff at he ⊢
    dsimp only at he ⊢
    split at he
    · exact x_er_g he hl
    · cases he
  | getfield i =>
    obtain ⟨c, a, q, rfl, h⟩ := x_pa_inv (show x_pa st (fun c a q => bif Nat.beq c x then x_g (pc + 3) ls (x_fv x a y w :: q) w else none) = _ from he)
    exact x_er_bif h (fun h => x_er_g h hl)
  | putfield i =>
    have he : x_pf x y pc ls st w = some e := he
    show ∃ e', x_pf x y pc ls' st w = some e' ∧ _
    obtain ⟨v, a, r, rfl, hft, h⟩ := x_pf_inv he
    have hb : Nat.beq x x = true := Nat.beq_refl x
    rcases h with ⟨hz, rfl⟩ | ⟨hz, rfl⟩
    · refine ⟨_, ?_, Or.inr (Or.inl ⟨_, _, _, _, _, _, rfl, rfl, hl⟩)⟩
      unfold x_pf; dsimp only; rw [hb, hft, hz]; rfl
    · refine ⟨_, ?_, Or.inl ⟨_, _, _, _, _, rfl, rfl, hl⟩⟩
      unfold x_pf; dsimp only; rw [hb, hft, hz]; rfl
  | iaload =>
    have he : x_iald k pc ls st w = some e := he
    show ∃ e', x_iald k pc ls' st w = some e' ∧ _
    obtain ⟨i, c, a, r, rfl, h⟩ := x_iald_inv he
    rcases h with ⟨rfl, rfl⟩ | ⟨hc, rfl⟩
    · exact ⟨_, rfl, Or.inr (Or.inl ⟨_, _, _, _, _, _, rfl, rfl, hl⟩)⟩
    · refine ⟨_, ?_, Or.inr (Or.inl ⟨_, _, _, _, _, _, rfl, rfl, hl⟩)⟩
      have b1 : Nat.beq c 51 = false := by
        cases hb : Nat.beq c 51 with
        | true => have := x_beq hb; omega
        | false => rfl
      have b2 : Nat.ble 100 c = true := Nat.ble_eq.mpr hc
      unfold x_iald; dsimp only; rw [b1, b2]; rfl
  | iastore =>
    have he : x_iast pc ls st w = some e := he
    show ∃ e', x_iast pc ls' st w = some e' ∧ _
    obtain ⟨v, i, c, a, r, rfl, hc, rfl⟩ := x_iast_inv he
    refine ⟨_, ?_, Or.inr (Or.inl ⟨_, _, _, _, _, _, rfl, rfl, hl⟩)⟩
    have b2 : Nat.ble 100 c = true := Nat.ble_eq.mpr hc
    unfold x_iast; dsimp only; rw [b2]; rfl
  | aaload =>
    have he : x_aald pc ls st w = some e := he
    show ∃ e', x_aald pc ls' st w = some e' ∧ _
    obtain ⟨i, a, r, rfl, rfl⟩ := x_aald_inv he
    exact ⟨_, rfl, Or.inr (Or.inl ⟨_, _, _, _, _, _, rfl, rfl, hl⟩)⟩
  | arraylength =>
    have he : x_alen k pc ls st w = some e := he
    show ∃ e', x_alen k pc ls' st w = some e' ∧ _
    unfold x_alen at he ⊢
    obtain ⟨c, a, q, rfl, h⟩ := x_pa_inv he
    clear he
    show ∃ e', (bif Nat.beq c 51 then x_o (k = 0) (pc + 1) ls' (xI (w 4 0) :: q) w else bif Nat.ble 100 c then x_g (pc + 1) ls' (xI (nI (c - 100)) :: q) w else none) = some e' ∧ _
    cases hc : Nat.beq c 51 with
    | true => rw [hc] at h; exact x_er_o h hl
    | false => rw [hc] at h; exact x_er_bif h (fun h => x_er_g h hl)
  | invokevirtual i =>
    have he : x_clv x (x_rev st y []) = some e := he
    refine ⟨e, he, ?_⟩
    unfold x_clv at he
    split at he
    · obtain ⟨-, he⟩ := x_bif he
      exact x_er_cl he
    · cases he
  | invokestatic i =>
    have he : x_ist d x y pc ls st w = some e := he
    show ∃ e', x_ist d x y pc ls' st w = some e' ∧ _
    unfold x_ist at he ⊢
    cases h1 : Nat.beq x 9999 with
    | true =>
      rw [h1] at he
      dsimp only [cond_true] at he ⊢
      split at he
      · exact x_er_o he hl
      · cases he
    | false =>
      rw [h1] at he
      cases h2 : Nat.beq x 9998 with
      | true =>
        rw [h2] at he
        dsimp only [cond_true, cond_false] at he ⊢
        obtain ⟨a, b, r, rfl, h⟩ := x_p2_inv he
        exact x_er_bif h (fun h => x_er_o h hl)
      | false =>
        rw [h2] at he
        cases h3 : Nat.beq x 9997 with
        | true =>
          rw [h3] at he
          dsimp only [cond_true, cond_false] at he ⊢
          obtain ⟨a, b, r, rfl, h⟩ := x_p2_inv he
          exact x_er_bif h (fun h => x_er_o h hl)
        | false =>
          rw [h3] at he
          dsimp only [cond_true, cond_false] at he ⊢
          exact ⟨e, he, x_er_cl he⟩
  | ireturn =>
    have he : x_iret x st = some e := he
    refine ⟨e, he, ?_⟩
    unfold x_iret at he
    split at he
    · split at he
      · exact Or.inr (Or.inr ⟨_, (Option.some.inj he).symm, (Option.some.inj he).symm⟩)
      · exact Or.inr (Or.inr ⟨_, (Option.some.inj he).symm, (Option.some.inj he).symm⟩)
    · cases he
  | lreturn =>
    refine ⟨e, he, ?_⟩
    unfold x_eff at he
    dsimp only at he
    split at he
    · exact Or.inr (Or.inr ⟨_, (Option.some.inj he).symm, (Option.some.inj he).symm⟩)
    · cases he
  | return_ =>
    refine ⟨e, he, ?_⟩
    unfold x_eff at he
    dsimp only at he
    split at he
    · exact Or.inr (Or.inr ⟨_, (Option.some.inj he).symm, (Option.some.inj he).symm⟩)
    · cases he
  | _ =>
    first
      | (cases he; done)
      | exact x_er_g he hl
      | (obtain ⟨a, b, q, rfl, h⟩ := x_p2_inv he; first | exact x_er_g h hl | exact x_er_o h hl)
      | (obtain ⟨a, q, rfl, h⟩ := x_p1_inv he; exact x_er_g h hl)
      | (obtain ⟨a, b, q, rfl, h⟩ := x_q2_inv he; first | exact x_er_g h hl | exact x_er_o h hl)
theorem xwp_weak : ∀ (n d k pc : Nat) (ls ls' st : List xMV) (w : xWd) (Q : xMV → xWd → Prop), x_le ls ls' → xwp n d k pc ls st w Q → xwp n d k pc ls' st w Q := by
  intro n
  induction n with
  | zero => intro d k pc ls ls' st w Q _ h; exact h.elim
  | succ n ih =>
    intro d k pc ls ls' st w Q hl h
    unfold xwp at h ⊢
    cases h1 : x_tb k pc with
    | none => rw [h1] at h; exact h.elim
    | some r =>
      rw [h1] at h
      dsimp only at h ⊢
      cases h2 : x_eff r d k pc ls st w with
      | none => rw [h2] at h; exact h.elim
      | some e =>
        rw [h2] at h
        obtain ⟨e', h3, h4⟩ := x_eff_le h2 hl
        rw [h3]
        rcases h4 with ⟨pc1, l1, l1', st1, w1, rfl, rfl, hl1⟩ | ⟨P, pc1, l1, l1', st1, w1, rfl, rfl, hl1⟩ | ⟨q, rfl, rfl⟩
        · exact ih _ _ _ _ _ _ _ _ hl1 h
        · exact ⟨h.1, ih _ _ _ _ _ _ _ _ hl1 h.2⟩
        · rcases q with ⟨y, as, rst⟩ | ⟨P, a⟩
          · cases d with
            | zero => exact h.elim
            | succ d => exact xwp_mono n _ _ _ _ _ _ _ _ _ (Nat.le_refl _) (fun a w' hq => ih _ _ _ _ _ _ _ _ hl hq) h
          · exact h
theorem x_weak {d k pc : Nat} {ls ls' st : List xMV} {w : xWd} {Q : xMV → xWd → Prop} (h : xWp d k pc ls st w Q) (hl : x_le ls ls') : xWp d k pc ls' st w Q := by
  obtain ⟨n, hn⟩ := h
  exact ⟨n, xwp_weak n _ _ _ _ _ _ _ _ hl hn⟩
theorem x_goW {d k pc : Nat} {ls st : List xMV} {w : xWd} {Q : xMV → xWd → Prop} {pc' : Nat} {ls' st' : List xMV} {w' : xWd} (h : x_one d k pc ls st w = some (.inl (pc', ls', st', w'))) (kk : ∀ w1, w1 = w' → xWp d k pc' ls' st' w1 Q) : xWp d k pc ls st w Q := x_go h (kk _ rfl)
theorem x_obW {d k pc : Nat} {ls st : List xMV} {w : xWd} {Q : xMV → xWd → Prop} {P : Prop} {pc' : Nat} {ls' st' : List xMV} {w' : xWd} (h : x_one d k pc ls st w = some (.inr (.inl (P, pc', ls', st', w')))) (hp : P) (kk : ∀ w1, w1 = w' → xWp d k pc' ls' st' w1 Q) : xWp d k pc ls st w Q := x_ob h hp (kk _ rfl)
theorem x_brT {d k : Nat} {ls st : List xMV} {w : xWd} {Q : xMV → xWd → Prop} {c : Prop} [hc : Decidable c] {t f : Nat} (h : c) (ht : xWp d k t ls st w Q) : xWp d k (if c then t else f) ls st w Q := by rw [if_pos h]; exact ht
theorem x_brF {d k : Nat} {ls st : List xMV} {w : xWd} {Q : xMV → xWd → Prop} {c : Prop} [hc : Decidable c] {t f : Nat} (h : ¬ c) (hf : xWp d k f ls st w Q) : xWp d k (if c then t else f) ls st w Q := by rw [if_neg h]; exact hf
