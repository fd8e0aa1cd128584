/-! RULES of the small machine -/
theorem xwp_mono : ∀ (n : Nat) (d k pc : Nat) (ls st : List xMV) (w : xWd) (Q Q' : xMV → xWd → Prop) (n' : Nat), n ≤ n' → (∀ a w, Q a w → Q' a w) → xwp n d k pc ls st w Q → xwp n' d k pc ls st w Q' := by
  intro n
  induction n with
  | zero => intro d k pc ls st w Q Q' n' _ _ h; exact h.elim
  | succ n ih =>
    intro d k pc ls st w Q Q' n' hn hQ h
    obtain ⟨n1, rfl⟩ : ∃ n1, n' = n1 + 1 := ⟨n' - 1, by omega⟩
    have hn1 : n ≤ n1 := by omega
    unfold xwp at h ⊢
    cases h1 : x_tb k pc with
    | none => rw [h1] at h; exact h.elim
    | some r =>
      rw [h1] at h
      dsimp only at h ⊢
      cases h2 : x_eff r d k pc ls st w with
      | none => rw [h2] at h; exact h.elim
      | some e =>
        rw [h2] at h
        rcases e with s | ⟨P, s⟩ | ⟨y, as, rst⟩ | ⟨P, a⟩
        · exact ih _ _ _ _ _ _ _ _ _ hn1 hQ h
        · exact ⟨h.1, ih _ _ _ _ _ _ _ _ _ hn1 hQ h.2⟩
        · cases d with
          | zero => exact h.elim
          | succ d => exact ih _ _ _ _ _ _ _ _ _ hn1 (fun a w' h' => ih _ _ _ _ _ _ _ _ _ hn1 hQ h') h
        · exact ⟨h.1, hQ _ _ h.2⟩
theorem xwp_det : ∀ (n : Nat) (d k pc : Nat) (ls st : List xMV) (w : xWd) (Q : xMV → xWd → Prop), xwp n d k pc ls st w Q → ∃ (a : xMV) (w' : xWd), Q a w' ∧ ∀ Q' : xMV → xWd → Prop, Q' a w' → xwp n d k pc ls st w Q' := by
  intro n
  induction n with
  | zero => intro d k pc ls st w Q h; exact h.elim
  | succ n ih =>
    intro d k pc ls st w Q h
    unfold xwp at h
    cases h1 : x_tb k pc with
    | none => rw [h1] at h; exact h.elim
    | some r =>
      rw [h1] at h
      dsimp only at h
      cases h2 : x_eff r d k pc ls st w with
      | none => rw [h2] at h; exact h.elim
      | some e =>
        rw [h2] at h
        rcases e with s | ⟨P, s⟩ | ⟨y, as, rst⟩ | ⟨P, a⟩
        · obtain ⟨a, w', hq, hk⟩ := ih _ _ _ _ _ _ _ h
          refine ⟨a, w', hq, fun Q' h' => ?_⟩
          unfold xwp; rw [h1]; dsimp only; rw [h2]; exact hk Q' h'
        · obtain ⟨a, w', hq, hk⟩ := ih _ _ _ _ _ _ _ h.2
          refine ⟨a, w', hq, fun Q' h' => ?_⟩
          unfold xwp; rw [h1]; dsimp only; rw [h2]; exact ⟨h.1, hk Q' h'⟩
        · cases d with
          | zero => exact h.elim
          | succ d =>
            obtain ⟨a1, w1, hq1, hk1⟩ := ih _ _ _ _ _ _ _ h
            obtain ⟨a2, w2, hq2, hk2⟩ := ih _ _ _ _ _ _ _ hq1
            refine ⟨a2, w2, hq2, fun Q' h' => ?_⟩
            unfold xwp; rw [h1]; dsimp only; rw [h2]; exact hk1 _ (hk2 Q' h')
        · refine ⟨a, w, h.2, fun Q' h' => ?_⟩
          unfold xwp; rw [h1]; dsimp only; rw [h2]; exact ⟨h.1, h'⟩
def xWp (d k pc : Nat) (ls st : List xMV) (w : xWd) (Q : xMV → xWd → Prop) : Prop := ∃ n, xwp n d k pc ls st w Q
def x_one (d k pc : Nat) (ls st : List xMV) (w : xWd) : Option xEff := match x_tb k pc with
  | none => none
  | some r => x_eff r d k pc ls st w
theorem x_one_tb {d k pc : Nat} {ls st : List xMV} {w : xWd} {e : xEff} (h : x_one d k pc ls st w = some e) : ∃ r, x_tb k pc = some r ∧ x_eff r d k pc ls st w = some e := by
  unfold x_one at h
  cases h1 : x_tb k pc with
  | none => rw [h1] at h; cases h
  | some r => rw [h1] at h; exact ⟨r, rfl, h⟩
theorem x_go {d k pc : Nat} {ls st : List xMV} {w : xWd} {Q : xMV → xWd → Prop} {pc' : Nat} {ls' st' : List xMV} {w' : xWd} (h : x_one d k pc ls st w = some (.inl (pc', ls', st', w'))) (kk : xWp d k pc' ls' st' w' Q) : xWp d k pc ls st w Q := by
  obtain ⟨r, h1, h2⟩ := x_one_tb h
  obtain ⟨n, hn⟩ := kk
  exact ⟨n + 1, by unfold xwp; rw [h1]; dsimp only; rw [h2]; exact hn⟩
theorem x_ob {d k pc : Nat} {ls st : List xMV} {w : xWd} {Q : xMV → xWd → Prop} {P : Prop} {pc' : Nat} {ls' st' : List xMV} {w' : xWd} (h : x_one d k pc ls st w = some (.inr (.inl (P, pc', ls', st', w')))) (hp : P) (kk : xWp d k pc' ls' st' w' Q) : xWp d k pc ls st w Q := by
  obtain ⟨r, h1, h2⟩ := x_one_tb h
  obtain ⟨n, hn⟩ := kk
  exact ⟨n + 1, by unfold xwp; rw [h1]; dsimp only; rw [h2]; exact ⟨hp, hn⟩⟩
theorem x_ret {d k pc : Nat} {ls st : List xMV} {w : xWd} {Q : xMV → xWd → Prop} {P : Prop} {a : xMV} (h : x_one d k pc ls st w = some (.inr (.inr (.inr (P, a))))) (hp : P) (kk : Q a w) : xWp d k pc ls st w Q := by
  obtain ⟨r, h1, h2⟩ := x_one_tb h
  exact ⟨1, by unfold xwp; rw [h1]; dsimp only; rw [h2]; exact ⟨hp, kk⟩⟩
theorem x_call {d k pc : Nat} {ls st : List xMV} {w : xWd} {Q : xMV → xWd → Prop} {y : Nat} {as rst : List xMV} (h : x_one (d + 1) k pc ls st w = some (.inr (.inr (.inl (y, as, rst))))) (ls' : List xMV) (hl : x_ent y as = ls')
    (kk : xWp d y 0 ls' [] w (fun a w' => xWp (d + 1) k (pc + 3) ls (x_pu a rst) w' Q)) : xWp (d + 1) k pc ls st w Q := by
  subst hl
  obtain ⟨r, h1, h2⟩ := x_one_tb h
  obtain ⟨n, hn⟩ := kk
  obtain ⟨a, w', ⟨n2, hq⟩, hk⟩ := xwp_det _ _ _ _ _ _ _ _ hn
  refine ⟨max n n2 + 1, ?_⟩
  unfold xwp; rw [h1]; dsimp only; rw [h2]
  exact xwp_mono n _ _ _ _ _ _ _ _ _ (Nat.le_max_left _ _) (fun _ _ h => h) (hk _ (xwp_mono n2 _ _ _ _ _ _ _ _ _ (Nat.le_max_right _ _) (fun _ _ h => h) hq))
theorem xWp_mono {d k pc : Nat} {ls st : List xMV} {w : xWd} {Q Q' : xMV → xWd → Prop} (h : xWp d k pc ls st w Q) (hQ : ∀ a w, Q a w → Q' a w) : xWp d k pc ls st w Q' := by
  obtain ⟨n, hn⟩ := h
  exact ⟨n, xwp_mono n _ _ _ _ _ _ _ _ _ (Nat.le_refl _) hQ hn⟩
theorem x_br {d k : Nat} {ls st : List xMV} {w : xWd} {Q : xMV → xWd → Prop} {c : Prop} [hc : Decidable c] {t f : Nat} (ht : c → xWp d k t ls st w Q) (hf : ¬ c → xWp d k f ls st w Q) : xWp d k (if c then t else f) ls st w Q := by
  by_cases h : c
  · rw [if_pos h]; exact ht h
  · rw [if_neg h]; exact hf h
def x_run : Nat → Nat → Nat → xSt → Option xSt
  | 0, _, _, s => some s
  | n + 1, d, k, s => match x_one d k s.1 s.2.1 s.2.2.1 s.2.2.2 with
    | some (.inl s') => x_run n d k s'
    | _ => none
theorem x_goN (n : Nat) {d k : Nat} {Q : xMV → xWd → Prop} : ∀ {pc : Nat} {ls st : List xMV} {w : xWd} {pc' : Nat} {ls' st' : List xMV} {w' : xWd}, x_run n d k (pc, ls, st, w) = some (pc', ls', st', w') → xWp d k pc' ls' st' w' Q → xWp d k pc ls st w Q := by
  induction n with
  | zero =>
    intro pc ls st w pc' ls' st' w' h kk
    cases h; exact kk
  | succ n ih =>
    intro pc ls st w pc' ls' st' w' h kk
    unfold x_run at h
    dsimp only at h
    cases h1 : x_one d k pc ls st w with
    | none => rw [h1] at h; cases h
    | some e =>
      rw [h1] at h
      rcases e with s | ⟨P, s⟩ | ⟨y, as, rst⟩ | ⟨P, a⟩
      · exact x_go (pc' := s.1) (ls' := s.2.1) (st' := s.2.2.1) (w' := s.2.2.2) h1 (ih h kk)
      · cases h
      · cases h
      · cases h
