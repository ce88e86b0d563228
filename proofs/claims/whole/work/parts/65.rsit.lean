/-! the model's sitter item -/
def IR (σ : ev_M) (res : Rs) (τ : ev_M) : Prop := (∀ a : Nat, a ≠ 46 → a ≠ 47 → τ a = σ a) ∧ (∀ i : Int, i < 12 ∨ 15 < i → τ 46 i = σ 46 i) ∧ match res with
  | .inl x => WR τ x
  | .inr (t, P) => LR τ t ∧ eqP (wr (τ 47)) P
def frI (σ τ : ev_M) : Prop := (∀ a : Nat, a ≠ 46 → a ≠ 47 → τ a = σ a) ∧ (∀ i : Int, i < 12 ∨ 15 < i → τ 46 i = σ 46 i)
theorem frI_M {σ τ : ev_M} (h : frM σ τ) : frI σ τ := ⟨fun a h1 _ => h.1 a h1, h.2⟩
theorem frI_tr {σ τ ω : ev_M} (h : frI σ τ) (g : frI τ ω) : frI σ ω := ⟨fun a h1 h2 => by rw [g.1 a h1 h2, h.1 a h1 h2], fun i hi => by rw [g.2 i hi, h.2 i hi]⟩
theorem frI_m {σ : ev_M} {i v : Int} : frI σ (mup σ 47 i v) := ⟨fun a _ h2 => mup_ne h2, fun i _ => by rw [mup_ne (by decide)]⟩
theorem LR_47 {σ τ : ev_M} {t : Tk} (h : LR σ t) (e46 : τ 46 = σ 46) (e55 : τ 55 = σ 55) : LR τ t := by
  unfold LR okTR at h ⊢
  rw [e46, e55]
  exact h
theorem WR_47 {σ τ : ev_M} {x : Int} (h : WR σ x) (e46 : τ 46 = σ 46) (e55 : τ 55 = σ 55) : WR τ x := by
  unfold WR okTR at h ⊢
  rw [e46, e55]
  exact h
