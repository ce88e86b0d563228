/-! some likenesses alone -/
def pos (pr : Int → Bool) : Nat → Nat
  | 0 => 0
  | n + 1 => pos pr n + (if pr n = true then 1 else 0)
theorem pos_le (pr : Int → Bool) : ∀ n : Nat, pos pr n ≤ n
  | 0 => Nat.le_refl 0
  | n + 1 => by
    have := pos_le pr n
    unfold pos
    split <;> omega
theorem pos_lt {pr : Int → Bool} {l : Nat} (h : pr l = true) : ∀ {n : Nat}, l < n → pos pr l < pos pr n
  | 0, hn => absurd hn (Nat.not_lt_zero _)
  | n + 1, hn => by
    show pos pr l < pos pr n + (if pr n = true then 1 else 0)
    rcases Nat.lt_or_ge l n with q | q
    · have := pos_lt h q
      omega
    · have e : l = n := by omega
      subst e
      rw [if_pos h]
      omega
theorem pos_all : ∀ n : Nat, pos allp n = n
  | 0 => rfl
  | n + 1 => by
    show pos allp n + (if allp n = true then 1 else 0) = n + 1
    rw [pos_all n]; rfl
/-- P' is P with those likenesses alone that 'pr' has -/
def CM (P : ev_M) (pr : Int → Bool) (P' : ev_M) : Prop := P' 0 1 = P 0 1 ∧ P' 0 2 = P 0 2 ∧ P' 0 3 = P 0 3 ∧ P' 0 8 = pos pr (P 0 8).toNat ∧ (∀ c : Int, 0 ≤ c ∧ c < 48 → P' 1 c = P 1 c) ∧ (∀ k : Int, 0 ≤ k ∧ k < P 0 3 → P' 2 k = P 2 k ∧ P' 3 k = P 3 k ∧ P' 4 k = P 4 k ∧ P' 5 k = P 5 k) ∧ (∀ l : Nat, (l : Int) < P 0 8 → pr l = true → P' 6 (pos pr l) = P 6 l ∧ P' 7 (pos pr l) = P 7 l ∧ P' 8 (pos pr l) = P 8 l)
/-- the set's own places -/
def bitp (s : Int) : Int → Bool := fun l => decide (s / pw l % 2 = 1)
theorem c_X2_keepOnly {b : ev_B} {σ : ev_M} {p : Nat} {s : Int} (hp : isP p) (H : okP (wn σ p)) (hs : 0 ≤ s ∧ s < 256) : Cl b mX2_keepOnly [vR p, vI s] σ (fun r τ => r = none ∧ CM (wn σ p) (bitp s) (wn τ p) ∧ frP p σ τ) := by
  refine ev_enter okX2_keepOnly.1 (Nat.le_of_ble_eq_true rfl) ?_
  have h0 := ok0 H
  obtain ⟨n, hn, hn2⟩ := nn_ex h0.2.2.2.1
  have loop : ∀ (m i : Nat) (τ : ev_M), i + m = n → (∀ a : Nat, a ≠ p + 6 → a ≠ p + 7 → a ≠ p + 8 → τ a = σ a) → (∀ l : Nat, l < i → bitp s l = true → τ (p + 6) (pos (bitp s) l) = σ (p + 6) l ∧ τ (p + 7) (pos (bitp s) l) = σ (p + 7) l ∧ τ (p + 8) (pos (bitp s) l) = σ (p + 8) l) → (∀ l : Int, (i : Int) ≤ l → τ (p + 6) l = σ (p + 6) l ∧ τ (p + 7) l = σ (p + 7) l ∧ τ (p + 8) l = σ (p + 8) l) →
      Ev b mX2_keepOnly 4 [(0, vR p), (1, vI s), (2, vI (pos (bitp s) i)), (3, vI i)] [] τ (fun r τ => r = none ∧ CM (wn σ p) (bitp s) (wn τ p) ∧ frP p σ τ) := by
    intro m
    induction m with
    | zero =>
      intro i τ h f1 f2 f3
      have e8 : τ p 8 = σ p 8 := by rw [f1 p (by omega) (by omega) (by omega)]
      have e : i = n := by omega
      subst e
      refine ev_iload_n dX2_keepOnly_4 rfl ?_
      refine ev_aload_n dX2_keepOnly_5 rfl ?_
      refine ev_geti 8 8 dX2_keepOnly_6 (pk0 hp) rfl flX2_58 iwX2 (by decide) rfl rfl ?_
      refine ev_icmp_ge (tgt := 66) dX2_keepOnly_9 (by decide) (by omega) (by omega) (fun c9 => ?_) (fun c9 => ?_)
      · refine ev_aload_n dX2_keepOnly_66 rfl ?_
        refine ev_iload_n dX2_keepOnly_67 rfl ?_
        refine ev_put (ty := .int) 8 8 dX2_keepOnly_68 (pk0 hp) rfl flX2_58 iwX2 tyX2_ok nmX2 (by decide) rfl rfl (by decide +kernel) rfl rfl rfl ?_
        refine ev_vret dX2_keepOnly_71 rfl ?_
        refine ⟨rfl, ⟨?_, ?_, ?_, ?_, ?_, ?_, ?_⟩, ?_⟩
        · simp only [wn0, wn1, wn2, wn3, wn4, wn5, wn6, wn7, wn8]
          simp (disch := omega) only [mr1, mr2, mr3, cr1, cr2, cr3]
          rw [f1 p (by omega) (by omega) (by omega)]
        · simp only [wn0, wn1, wn2, wn3, wn4, wn5, wn6, wn7, wn8]
          simp (disch := omega) only [mr1, mr2, mr3, cr1, cr2, cr3]
          rw [f1 p (by omega) (by omega) (by omega)]
        · simp only [wn0, wn1, wn2, wn3, wn4, wn5, wn6, wn7, wn8]
          simp (disch := omega) only [mr1, mr2, mr3, cr1, cr2, cr3]
          rw [f1 p (by omega) (by omega) (by omega)]
        · simp only [wn0, wn1, wn2, wn3, wn4, wn5, wn6, wn7, wn8]
          simp (disch := omega) only [mr1, mr2, mr3, cr1, cr2, cr3]
          rw [hn2]
        · intro c hc
          simp only [wn0, wn1, wn2, wn3, wn4, wn5, wn6, wn7, wn8]
          simp (disch := omega) only [mr1, mr2, mr3, cr1, cr2, cr3]
          rw [f1 (p + 1) (by omega) (by omega) (by omega)]
        · intro k hk
          simp only [wn0, wn1, wn2, wn3, wn4, wn5, wn6, wn7, wn8]
          simp (disch := omega) only [mr1, mr2, mr3, cr1, cr2, cr3]
          rw [f1 (p + 2) (by omega) (by omega) (by omega), f1 (p + 3) (by omega) (by omega) (by omega), f1 (p + 4) (by omega) (by omega) (by omega), f1 (p + 5) (by omega) (by omega) (by omega)]
          exact ⟨rfl, rfl, rfl, rfl⟩
        · intro l hl hb
          simp only [wn0, wn1, wn2, wn3, wn4, wn5, wn6, wn7, wn8] at hl ⊢
          simp (disch := omega) only [mr1, mr2, mr3, cr1, cr2, cr3]
          exact f2 l (by omega) hb
        · intro a ha
          simp (disch := omega) only [fr1]
          exact f1 a (by omega) (by omega) (by omega)
      · exact absurd c9 (by omega)
    | succ m ih =>
      intro i τ h f1 f2 f3
      have e8 : τ p 8 = σ p 8 := by rw [f1 p (by omega) (by omega) (by omega)]
      have hq := pos_le (bitp s) i
      have hd := pw_div hs (l := i) (by omega)
      have g := f3 i (by omega)
      refine ev_iload_n dX2_keepOnly_4 rfl ?_
      refine ev_aload_n dX2_keepOnly_5 rfl ?_
      refine ev_geti 8 8 dX2_keepOnly_6 (pk0 hp) rfl flX2_58 iwX2 (by decide) rfl rfl ?_
      refine ev_icmp_ge (tgt := 66) dX2_keepOnly_9 (by decide) (by omega) (by omega) (fun c9 => ?_) (fun c9 => ?_)
      · exact absurd c9 (by omega)
      · refine ev_iload_n dX2_keepOnly_12 rfl ?_
        refine ev_iload_n dX2_keepOnly_13 rfl ?_
        refine ev_ishr dX2_keepOnly_14 (bt_shr hs (by omega)) ?_
        refine ev_iconst dX2_keepOnly_15 ?_
        refine ev_iand dX2_keepOnly_16 (bt_and1 hd) ?_
        refine ev_iconst dX2_keepOnly_17 ?_
        refine ev_icmp_ne (tgt := 60) dX2_keepOnly_18 (by decide) (by omega) (by omega) (fun c18 => ?_) (fun c18 => ?_)
        · have hb : ¬ bitp s i = true := by simp only [bitp, decide_eq_true_eq]; exact c18
          refine ev_iinc dX2_keepOnly_60 rfl (by decide) rfl ?_
          refine ev_goto (tgt := 4) dX2_keepOnly_63 (by decide) ?_
          have e : pos (bitp s) i = pos (bitp s) (i + 1) := by rw [pos, if_neg hb, Nat.add_zero]
          rw [e]
          refine ih (i + 1) τ (by omega) f1 (fun l hl hl2 => ?_) (fun l hl => f3 l (by omega))
          rcases Nat.lt_or_ge l i with q | q
          · exact f2 l q hl2
          · have e2 : l = i := by omega
            subst e2
            exact absurd hl2 hb
        · have hb : bitp s i = true := by simp only [bitp, decide_eq_true_eq]; exact c18
          refine ev_aload_n dX2_keepOnly_21 rfl ?_
          refine ev_getr 9 dX2_keepOnly_22 (pk0 hp) rfl flX2_31 iwX2 (by decide) rfl ?_
          refine ev_iload_n dX2_keepOnly_25 rfl ?_
          refine ev_aload_n dX2_keepOnly_26 rfl ?_
          refine ev_getr 9 dX2_keepOnly_27 (pk0 hp) rfl flX2_31 iwX2 (by decide) rfl ?_
          refine ev_iload_n dX2_keepOnly_30 rfl ?_
          refine ev_iald dX2_keepOnly_31 (pk6 hp) (by omega) ?_
          refine ev_iast dX2_keepOnly_32 (pk6 hp) (by omega) ?_
          refine ev_aload_n dX2_keepOnly_33 rfl ?_
          refine ev_getr 10 dX2_keepOnly_34 (pk0 hp) rfl flX2_34 iwX2 (by decide) rfl ?_
          refine ev_iload_n dX2_keepOnly_37 rfl ?_
          refine ev_aload_n dX2_keepOnly_38 rfl ?_
          refine ev_getr 10 dX2_keepOnly_39 (pk0 hp) rfl flX2_34 iwX2 (by decide) rfl ?_
          refine ev_iload_n dX2_keepOnly_42 rfl ?_
          refine ev_iald dX2_keepOnly_43 (pk7 hp) (by omega) ?_
          refine ev_iast dX2_keepOnly_44 (pk7 hp) (by omega) ?_
          refine ev_aload_n dX2_keepOnly_45 rfl ?_
          refine ev_getr 11 dX2_keepOnly_46 (pk0 hp) rfl flX2_37 iwX2 (by decide) rfl ?_
          refine ev_iload_n dX2_keepOnly_49 rfl ?_
          refine ev_aload_n dX2_keepOnly_50 rfl ?_
          refine ev_getr 11 dX2_keepOnly_51 (pk0 hp) rfl flX2_37 iwX2 (by decide) rfl ?_
          refine ev_iload_n dX2_keepOnly_54 rfl ?_
          refine ev_iald dX2_keepOnly_55 (pk8 hp) (by omega) ?_
          refine ev_iast dX2_keepOnly_56 (pk8 hp) (by omega) ?_
          refine ev_iinc dX2_keepOnly_57 rfl (by decide) rfl ?_
          refine ev_iinc dX2_keepOnly_60 rfl (by decide) rfl ?_
          refine ev_goto (tgt := 4) dX2_keepOnly_63 (by decide) ?_
          have e : ((pos (bitp s) i : Nat) : Int) + 1 = (pos (bitp s) (i + 1) : Nat) := by rw [pos, if_pos hb]; omega
          rw [e]
          refine ih (i + 1) _ (by omega) (fun a h6 h7 h8 => ?_) (fun l hl hl2 => ?_) (fun l hl => ?_)
          · simp (disch := omega) only [fr1]
            exact f1 a h6 h7 h8
          · rcases Nat.lt_or_ge l i with q | q
            · have hlt := pos_lt hl2 q
              simp (disch := omega) only [mr1, mr2, mr3, cr1, cr2, cr3]
              exact f2 l q hl2
            · have e2 : l = i := by omega
              subst e2
              simp (disch := omega) only [mr1, mr2, mr3, cr1, cr2, cr3]
              exact g
          · simp (disch := omega) only [mr1, mr2, mr3, cr1, cr2, cr3]
            exact f3 l (by omega)
  refine ev_iconst dX2_keepOnly_0 ?_
  refine ev_istore_n dX2_keepOnly_1 (by decide) rfl ?_
  refine ev_iconst dX2_keepOnly_2 ?_
  refine ev_istore_n dX2_keepOnly_3 (by decide) rfl ?_
  exact loop n 0 σ (by omega) (fun _ _ _ _ => rfl) (fun l hl => absurd hl (Nat.not_lt_zero l)) (fun _ _ => ⟨rfl, rfl, rfl⟩)
