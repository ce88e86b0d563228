/-! fears, told by the table -/
theorem mst_bd2 {P : ev_M} {pr : Int → Bool} {tb : Int → Int → Int} {c k s : Int} (hs : s ≤ -1000) : ∀ {n : Nat}, (∀ l : Nat, l < n → -1000 ≤ tb l (sp_dist (P 6 l) c) ∧ tb l (sp_dist (P 6 l) c) ≤ 1000) → mst P pr tb c k s n = s ∨ (-1000 ≤ mst P pr tb c k s n ∧ mst P pr tb c k s n ≤ 1000)
  | 0, _ => Or.inl rfl
  | n + 1, h => by
    have h1 := mst_bd2 (P := P) (pr := pr) (tb := tb) (c := c) (k := k) hs (n := n) (fun l hl => h l (by omega))
    have h2 := h n (by omega)
    unfold mst
    split <;> omega
theorem fearT_bd {P : ev_M} {pr : Int → Bool} {tb : Int → Int → Int} {c s : Int} (hs : s ≤ -1000) (h3 : 0 ≤ P 0 3 ∧ P 0 3 ≤ 6) (h : ∀ l : Nat, l < (P 0 8).toNat → -1000 ≤ tb l (sp_dist (P 6 l) c) ∧ tb l (sp_dist (P 6 l) c) ≤ 1000) : -6000 ≤ fearT P pr tb s c ∧ fearT P pr tb s c ≤ 6000 := by
  unfold fearT
  have q := sm_bd (f := fun k => if mst P pr tb c k s (P 0 8).toNat = s then 0 else mst P pr tb c k s (P 0 8).toNat) (lo := -1000) (hi := 1000) (n := (P 0 3).toNat) (fun i _ => by
    have := mst_bd2 (P := P) (pr := pr) (tb := tb) (c := c) (k := i) hs h
    try simp only []
    split <;> omega)
  omega
theorem mst_congr {P : ev_M} {pr : Int → Bool} {tb tb' : Int → Int → Int} {c k s : Int} : ∀ {n : Nat}, (∀ l : Nat, l < n → tb l (sp_dist (P 6 l) c) = tb' l (sp_dist (P 6 l) c)) → mst P pr tb c k s n = mst P pr tb' c k s n
  | 0, _ => rfl
  | n + 1, h => by
    unfold mst
    rw [mst_congr (fun l hl => h l (by omega)), h n (by omega)]
theorem fearT_congr {P : ev_M} {pr : Int → Bool} {tb tb' : Int → Int → Int} {c s : Int} (h : ∀ l : Nat, l < (P 0 8).toNat → tb l (sp_dist (P 6 l) c) = tb' l (sp_dist (P 6 l) c)) : fearT P pr tb s c = fearT P pr tb' s c := by
  unfold fearT
  apply sm_congr
  intro i _
  rw [mst_congr h]
/-- what the flock holds of a plain -/
def FO (σ : ev_M) (p : Nat) : Prop := (∀ l : Int, 0 ≤ l ∧ l < σ p 8 → (-15 ≤ σ 30 l ∧ σ 30 l ≤ 35) ∧ ∀ d : Int, 0 ≤ d ∧ d < 13 → tbl σ l d = sp_scare (σ (p + 2) (σ (p + 7) l)) (σ 30 l) d) ∧ (∀ c : Int, 0 ≤ c ∧ c < 48 → σ 29 c = fearT (wn σ p) allp (tbl σ) (-1000000) c) ∧ (∀ k : Int, 0 ≤ k ∧ k < σ p 3 → σ 33 k = mts (wn σ p) allp k (σ p 8).toNat)
theorem FO_tbl {σ : ev_M} {p : Nat} (h : ∀ l : Int, 0 ≤ l ∧ l < σ p 8 → (-15 ≤ σ 30 l ∧ σ 30 l ≤ 35) ∧ ∀ d : Int, 0 ≤ d ∧ d < 13 → tbl σ l d = sp_scare (σ (p + 2) (σ (p + 7) l)) (σ 30 l) d) : ∀ l d : Int, 0 ≤ l ∧ l < σ p 8 → 0 ≤ d ∧ d < 13 → -1000 ≤ tbl σ l d ∧ tbl σ l d ≤ 1000 := by
  intro l d hl hd
  obtain ⟨h1, h2⟩ := h l hl
  rw [h2 d hd]
  have := sp_scare_bd (kind := σ (p + 2) (σ (p + 7) l)) h1 hd.1
  omega
theorem FO_bd {σ : ev_M} {p : Nat} (H : okP (wn σ p)) (h : FO σ p) {c : Int} (hc : 0 ≤ c ∧ c < 48) : -6000 ≤ σ 29 c ∧ σ 29 c ≤ 6000 := by
  rw [h.2.1 c hc]
  refine fearT_bd (by omega) H.2.2.1 (fun l hl => ?_)
  have h0 := ok0 H
  have q := okl H (l := l) (by rw [wn0] at hl; omega)
  exact FO_tbl h.1 l _ (by rw [wn0] at hl; omega) (sp_dist_bd q.1 hc)
theorem FO_fear {σ : ev_M} {p : Nat} (H : okP (wn σ p)) (h : FO σ p) (hc : ∀ l : Int, 0 ≤ l ∧ l < σ p 8 → σ 30 l = cnt (wn σ p) l) {c : Int} (hcc : 0 ≤ c ∧ c < 48) : σ 29 c = fear (wn σ p) allp c := by
  rw [h.2.1 c hcc]
  unfold fear
  refine fearT_congr (fun l hl => ?_)
  have h0 := ok0 H
  have hl2 : 0 ≤ (l : Int) ∧ (l : Int) < σ p 8 := by rw [wn0] at hl; omega
  have q := okl H hl2
  rw [wn6, (h.1 l hl2).2 _ (sp_dist_bd q.1 hcc), hc l hl2]
  rfl
/-! where a crow lands -/
theorem c_X0_landing {b : ev_B} {σ : ev_M} {p : Nat} (hp : isP p) (hw : ∀ c : Int, 0 ≤ c ∧ c < 48 → 0 ≤ σ (p + 1) c ∧ σ (p + 1) c ≤ 99) (hf : ∀ c : Int, 0 ≤ c ∧ c < 48 → -6000 ≤ σ 29 c ∧ σ 29 c ≤ 6000) : CF b mX0_landing [vR 28, vR p] σ (some (vI (lnd (σ (p + 1)) (σ 29) 48))) σ := by
  refine ev_enter okX0_landing.1 (Nat.le_of_ble_eq_true rfl) ?_
  have loop : ∀ (m i : Nat) (z : Int) (ls : List (Nat × ev_V)), ev_lk ls 0 = some (vR 28) → ev_lk ls 1 = some (vR p) → ev_lk ls 2 = some (vI (lnd (σ (p + 1)) (σ 29) i)) → ev_lk ls 3 = some (vI z) → ev_lk ls 4 = some (vI i) → (0 ≤ lnd (σ (p + 1)) (σ 29) i → z = σ (p + 1) (lnd (σ (p + 1)) (σ 29) i) - σ 29 (lnd (σ (p + 1)) (σ 29) i)) → i + m = 48 → Ev b mX0_landing 7 ls [] σ (fun r' τ' => r' = some (vI (lnd (σ (p + 1)) (σ 29) 48)) ∧ τ' = σ) := by
    intro m
    induction m with
    | zero =>
      intro i z ls l0 l1 l2 l3 l4 hz h
      refine Ev.lsub (ls' := [(0, vR 28), (1, vR p), (2, vI (lnd (σ (p + 1)) (σ 29) i)), (3, vI z), (4, vI i)]) (by simp [l0, l1, l2, l3, l4]) ?_
      refine ev_iload dX0_landing_7 rfl ?_
      refine ev_bipush dX0_landing_9 (by decide) ?_
      refine ev_icmp_ge (tgt := 75) dX0_landing_11 (by decide) (by omega) (by omega) (fun c11 => ?_) (fun c11 => ?_)
      · refine ev_iload_n dX0_landing_75 rfl ?_
        refine ev_iret dX0_landing_76 rfl rfl ?_
        have e : i = 48 := by omega
        subst e
        exact ⟨rfl, rfl⟩
      · exact absurd c11 (by omega)
    | succ m ih =>
      intro i z ls l0 l1 l2 l3 l4 hz h
      refine Ev.lsub (ls' := [(0, vR 28), (1, vR p), (2, vI (lnd (σ (p + 1)) (σ 29) i)), (3, vI z), (4, vI i)]) (by simp [l0, l1, l2, l3, l4]) ?_
      have w1 := hw i (by omega)
      have f1 := hf i (by omega)
      have lb := lnd_bd (σ (p + 1)) (σ 29) i
      have zb : 0 ≤ lnd (σ (p + 1)) (σ 29) i → -7000 ≤ z ∧ z ≤ 7000 := by
        intro q
        have w2 := hw (lnd (σ (p + 1)) (σ 29) i) (by omega)
        have f2 := hf (lnd (σ (p + 1)) (σ 29) i) (by omega)
        rw [hz q]; omega
      have stay : ¬ (0 < σ (p + 1) i ∧ σ 29 i < 20 ∧ (lnd (σ (p + 1)) (σ 29) i < 0 ∨ σ (p + 1) (lnd (σ (p + 1)) (σ 29) i) - σ 29 (lnd (σ (p + 1)) (σ 29) i) < σ (p + 1) i - σ 29 i)) → ∀ ls : List (Nat × ev_V), ev_lk ls 0 = some (vR 28) → ev_lk ls 1 = some (vR p) → ev_lk ls 2 = some (vI (lnd (σ (p + 1)) (σ 29) i)) → ev_lk ls 3 = some (vI z) → ev_lk ls 4 = some (vI i) → Ev b mX0_landing 69 ls [] σ (fun r' τ' => r' = some (vI (lnd (σ (p + 1)) (σ 29) 48)) ∧ τ' = σ) := by
        intro hno ls l0 l1 l2 l3 l4
        refine Ev.lsub (ls' := [(0, vR 28), (1, vR p), (2, vI (lnd (σ (p + 1)) (σ 29) i)), (3, vI z), (4, vI i)]) (by simp [l0, l1, l2, l3, l4]) ?_
        have e : lnd (σ (p + 1)) (σ 29) (i + 1) = lnd (σ (p + 1)) (σ 29) i := by rw [lnd, if_neg hno]
        refine ev_iinc dX0_landing_69 rfl (by decide) rfl ?_
        refine ev_goto (tgt := 7) dX0_landing_72 (by decide) ?_
        exact ih (i + 1) z _ rfl rfl (by rw [e]; rfl) rfl rfl (by rw [e]; exact hz) (by omega)
      have move : (0 < σ (p + 1) i ∧ σ 29 i < 20 ∧ (lnd (σ (p + 1)) (σ 29) i < 0 ∨ σ (p + 1) (lnd (σ (p + 1)) (σ 29) i) - σ 29 (lnd (σ (p + 1)) (σ 29) i) < σ (p + 1) i - σ 29 i)) → Ev b mX0_landing 63 [(0, vR 28), (1, vR p), (2, vI (lnd (σ (p + 1)) (σ 29) i)), (3, vI z), (4, vI i), (5, vI (σ (p + 1) i - σ 29 i))] [] σ (fun r' τ' => r' = some (vI (lnd (σ (p + 1)) (σ 29) 48)) ∧ τ' = σ) := by
        intro hyes
        have e : lnd (σ (p + 1)) (σ 29) (i + 1) = i := by rw [lnd, if_pos hyes]
        refine ev_iload dX0_landing_63 rfl ?_
        refine ev_istore_n dX0_landing_65 (by decide) rfl ?_
        refine ev_iload dX0_landing_66 rfl ?_
        refine ev_istore_n dX0_landing_68 (by decide) rfl ?_
        refine ev_iinc dX0_landing_69 rfl (by decide) rfl ?_
        refine ev_goto (tgt := 7) dX0_landing_72 (by decide) ?_
        exact ih (i + 1) (σ (p + 1) i - σ 29 i) _ rfl rfl (by rw [e]; rfl) rfl rfl (by rw [e]; intro _; rfl) (by omega)
      refine ev_iload dX0_landing_7 rfl ?_
      refine ev_bipush dX0_landing_9 (by decide) ?_
      refine ev_icmp_ge (tgt := 75) dX0_landing_11 (by decide) (by omega) (by omega) (fun c11 => ?_) (fun c11 => ?_)
      · exact absurd c11 (by omega)
      · refine ev_aload_n dX0_landing_14 rfl ?_
        refine ev_getr 0 dX0_landing_15 (pk0 hp) rfl flX0_50 iwX2 (by decide) rfl ?_
        refine ev_iload dX0_landing_18 rfl ?_
        refine ev_iald dX0_landing_20 (pk1 hp) (by omega) ?_
        refine ev_if_le (tgt := 69) dX0_landing_21 (by decide) (by omega) (fun c21 => ?_) (fun c21 => ?_)
        · exact stay (by omega) _ rfl rfl rfl rfl rfl
        · refine ev_aload_n dX0_landing_24 rfl ?_
          refine ev_getr 0 dX0_landing_25 rfl rfl flX0_9 iwX0 (by decide) rfl ?_
          refine ev_iload dX0_landing_28 rfl ?_
          refine ev_iald dX0_landing_30 rfl (by omega) ?_
          refine ev_bipush dX0_landing_31 (by decide) ?_
          refine ev_icmp_ge (tgt := 69) dX0_landing_33 (by decide) (by omega) (by omega) (fun c33 => ?_) (fun c33 => ?_)
          · exact stay (by omega) _ rfl rfl rfl rfl rfl
          · refine ev_aload_n dX0_landing_36 rfl ?_
            refine ev_getr 0 dX0_landing_37 (pk0 hp) rfl flX0_50 iwX2 (by decide) rfl ?_
            refine ev_iload dX0_landing_40 rfl ?_
            refine ev_iald dX0_landing_42 (pk1 hp) (by omega) ?_
            refine ev_aload_n dX0_landing_43 rfl ?_
            refine ev_getr 0 dX0_landing_44 rfl rfl flX0_9 iwX0 (by decide) rfl ?_
            refine ev_iload dX0_landing_47 rfl ?_
            refine ev_iald dX0_landing_49 rfl (by omega) ?_
            refine ev_isub dX0_landing_50 ?_
            refine ev_istore dX0_landing_51 (by decide) rfl ?_
            refine ev_iload_n dX0_landing_53 rfl ?_
            refine ev_if_lt (tgt := 63) dX0_landing_54 (by decide) (by omega) (fun c54 => ?_) (fun c54 => ?_)
            · exact move (by omega)
            · have zz := hz (by omega)
              have zb2 := zb (by omega)
              refine ev_iload dX0_landing_57 rfl ?_
              refine ev_iload_n dX0_landing_59 rfl ?_
              refine ev_icmp_le (tgt := 69) dX0_landing_60 (by decide) (by omega) (by omega) (fun c60 => ?_) (fun c60 => ?_)
              · exact stay (by omega) _ rfl rfl rfl rfl rfl
              · exact move (by omega)
  refine ev_iconst dX0_landing_0 ?_
  refine ev_istore_n dX0_landing_1 (by decide) rfl ?_
  refine ev_iconst dX0_landing_2 ?_
  refine ev_istore_n dX0_landing_3 (by decide) rfl ?_
  refine ev_iconst dX0_landing_4 ?_
  refine ev_istore dX0_landing_5 (by decide) rfl ?_
  exact loop 48 0 0 _ rfl rfl rfl rfl rfl (fun q => absurd q (by simp [lnd])) (by omega)
theorem c_X0_fearedCells {b : ev_B} {σ : ev_M} (hf : ∀ c : Int, 0 ≤ c ∧ c < 48 → -6000 ≤ σ 29 c ∧ σ 29 c ≤ 6000) : CF b mX0_fearedCells [vR 28] σ (some (vI (sm (fun c => if 20 ≤ σ 29 c then 1 else 0) 48))) σ := by
  refine ev_enter okX0_fearedCells.1 (Nat.le_of_ble_eq_true rfl) ?_
  have loop : ∀ (m i : Nat), i + m = 48 → Ev b mX0_fearedCells 4 [(0, vR 28), (1, vI (sm (fun c => if 20 ≤ σ 29 c then 1 else 0) i)), (2, vI i)] [] σ (fun r' τ' => r' = some (vI (sm (fun c => if 20 ≤ σ 29 c then 1 else 0) 48)) ∧ τ' = σ) := by
    intro m
    induction m with
    | zero =>
      intro i h
      refine ev_iload_n dX0_fearedCells_4 rfl ?_
      refine ev_bipush dX0_fearedCells_5 (by decide) ?_
      refine ev_icmp_ge (tgt := 30) dX0_fearedCells_7 (by decide) (by omega) (by omega) (fun c7 => ?_) (fun c7 => ?_)
      · refine ev_iload_n dX0_fearedCells_30 rfl ?_
        refine ev_iret dX0_fearedCells_31 rfl rfl ?_
        have e : i = 48 := by omega
        subst e
        exact ⟨rfl, rfl⟩
      · exact absurd c7 (by omega)
    | succ m ih =>
      intro i h
      have f1 := hf i (by omega)
      refine ev_iload_n dX0_fearedCells_4 rfl ?_
      refine ev_bipush dX0_fearedCells_5 (by decide) ?_
      refine ev_icmp_ge (tgt := 30) dX0_fearedCells_7 (by decide) (by omega) (by omega) (fun c7 => ?_) (fun c7 => ?_)
      · exact absurd c7 (by omega)
      · refine ev_aload_n dX0_fearedCells_10 rfl ?_
        refine ev_getr 0 dX0_fearedCells_11 rfl rfl flX0_9 iwX0 (by decide) rfl ?_
        refine ev_iload_n dX0_fearedCells_14 rfl ?_
        refine ev_iald dX0_fearedCells_15 rfl (by omega) ?_
        refine ev_bipush dX0_fearedCells_16 (by decide) ?_
        refine ev_icmp_lt (tgt := 24) dX0_fearedCells_18 (by decide) (by omega) (by omega) (fun c18 => ?_) (fun c18 => ?_)
        · refine ev_iinc dX0_fearedCells_24 rfl (by decide) rfl ?_
          refine ev_goto (tgt := 4) dX0_fearedCells_27 (by decide) ?_
          have e : sm (fun c => if 20 ≤ σ 29 c then 1 else 0) i = sm (fun c => if 20 ≤ σ 29 c then 1 else 0) (i + 1) := by
            rw [sm, if_neg (by omega), Int.add_zero]
          rw [e]
          exact ih (i + 1) (by omega)
        · refine ev_iinc dX0_fearedCells_21 rfl (by decide) rfl ?_
          refine ev_iinc dX0_fearedCells_24 rfl (by decide) rfl ?_
          refine ev_goto (tgt := 4) dX0_fearedCells_27 (by decide) ?_
          have e : sm (fun c => if 20 ≤ σ 29 c then 1 else 0) i + 1 = sm (fun c => if 20 ≤ σ 29 c then 1 else 0) (i + 1) := by
            rw [sm, if_pos (by omega)]
          rw [e]
          exact ih (i + 1) (by omega)
  refine ev_iconst dX0_fearedCells_0 ?_
  refine ev_istore_n dX0_fearedCells_1 (by decide) rfl ?_
  refine ev_iconst dX0_fearedCells_2 ?_
  refine ev_istore_n dX0_fearedCells_3 (by decide) rfl ?_
  exact loop 48 0 (by omega)
/-! what likenesses count for, taken anew -/
/-- the rows of likenesses below i are taken, the others are as they were -/
def tkn (σ τ : ev_M) (p : Nat) (i : Int) : Prop := (∀ a : Nat, a ≠ 30 → a ≠ 31 → τ a = σ a) ∧ (∀ l : Int, 0 ≤ l ∧ l < i → τ 30 l = cnt (wn σ p) l ∧ ∀ d : Int, 0 ≤ d ∧ d < 13 → tbl τ l d = sp_scare (σ (p + 2) (σ (p + 7) l)) (cnt (wn σ p) l) d) ∧ (∀ l : Int, i ≤ l → τ 30 l = σ 30 l ∧ ∀ d : Int, 0 ≤ d ∧ d < 13 → tbl τ l d = tbl σ l d)
theorem tkn_take {σ τ : ev_M} {p : Nat} {i : Int} (h : tkn σ τ p i) (hi : 0 ≤ i) : tkn σ (tks τ i (σ (p + 2) (σ (p + 7) i)) (cnt (wn σ p) i) 13) p (i + 1) := by
  obtain ⟨h1, h2, h3⟩ := h
  refine ⟨fun a h30 h31 => by rw [tks_ne h31 h30]; exact h1 a h30 h31, fun l hl => ?_, fun l hl => ?_⟩
  · by_cases e : l = i
    · subst e
      refine ⟨by unfold tks; rw [if_neg (by omega)]; exact mr3, fun d hd => ?_⟩
      unfold tbl tks
      rw [if_pos (by omega)]
      congr 1
      omega
    · obtain ⟨g1, g2⟩ := h2 l (by omega)
      refine ⟨by unfold tks; rw [if_neg (by omega), mr2 e]; exact g1, fun d hd => ?_⟩
      have g3 := g2 d hd
      unfold tbl at g3 ⊢
      unfold tks
      rw [if_neg (by omega), mr1 (by omega)]
      exact g3
  · obtain ⟨g1, g2⟩ := h3 l (by omega)
    refine ⟨by unfold tks; rw [if_neg (by omega), mr2 (by omega)]; exact g1, fun d hd => ?_⟩
    have g3 := g2 d hd
    unfold tbl at g3 ⊢
    unfold tks
    rw [if_neg (by omega), mr1 (by omega)]
    exact g3
theorem tkn_wn {σ τ : ev_M} {p : Nat} {i : Int} (hp : isP p) (h : tkn σ τ p i) : wn τ p = wn σ p := by
  have hpb : p ≤ 19 := by rcases hp with rfl | rfl | rfl <;> omega
  exact wn_congr (fun j hj => h.1 (p + j) (by omega) (by omega))
theorem c_X0_renewScares {b : ev_B} {σ : ev_M} {p : Nat} (hp : isP p) (H : okP (wn σ p)) (hF : FO σ p) : Cl b mX0_renewScares [vR 28, vR p] σ (fun r τ => ∃ ch : Bool, r = some (vI (if ch = true then 1 else 0)) ∧ (ch = false → τ = σ) ∧ tkn σ τ p (σ p 8)) := by
  refine ev_enter okX0_renewScares.1 (Nat.le_of_ble_eq_true rfl) ?_
  have h0 := ok0 H
  have hpb : p ≤ 19 := by rcases hp with rfl | rfl | rfl <;> omega
  obtain ⟨n, hn, hn2⟩ := nn_ex h0.2.2.2.1
  have loop : ∀ (m i : Nat) (τ : ev_M) (ch : Bool) (ls : List (Nat × ev_V)), ev_lk ls 0 = some (vR 28) → ev_lk ls 1 = some (vR p) → ev_lk ls 2 = some (vI (if ch = true then 1 else 0)) → ev_lk ls 3 = some (vI i) → i + m = n → (ch = false → τ = σ) → tkn σ τ p i → Ev b mX0_renewScares 4 ls [] τ (fun r τ => ∃ ch : Bool, r = some (vI (if ch = true then 1 else 0)) ∧ (ch = false → τ = σ) ∧ tkn σ τ p (σ p 8)) := by
    intro m
    induction m with
    | zero =>
      intro i τ ch ls l0 l1 l2 l3 h hc ht
      refine Ev.lsub (ls' := [(0, vR 28), (1, vR p), (2, vI (if ch = true then 1 else 0)), (3, vI i)]) (by simp [l0, l1, l2, l3]) ?_
      have e8 : τ p 8 = σ p 8 := by rw [ht.1 p (by omega) (by omega)]
      refine ev_iload_n dX0_renewScares_4 rfl ?_
      refine ev_aload_n dX0_renewScares_5 rfl ?_
      refine ev_geti 8 8 dX0_renewScares_6 (pk0 hp) rfl flX0_27 iwX2 (by decide) rfl rfl ?_
      refine ev_icmp_ge (tgt := 46) dX0_renewScares_9 (by decide) (by omega) (by omega) (fun c9 => ?_) (fun c9 => ?_)
      · refine ev_iload_n dX0_renewScares_46 rfl ?_
        refine ev_iret dX0_renewScares_47 rfl (by first | rfl | exact ev_nb) ?_
        have e : i = n := by omega
        subst e
        rw [hn]
        exact ⟨ch, rfl, hc, ht⟩
      · exact absurd c9 (by omega)
    | succ m ih =>
      intro i τ ch ls l0 l1 l2 l3 h hc ht
      refine Ev.lsub (ls' := [(0, vR 28), (1, vR p), (2, vI (if ch = true then 1 else 0)), (3, vI i)]) (by simp [l0, l1, l2, l3]) ?_
      have e8 : τ p 8 = σ p 8 := by rw [ht.1 p (by omega) (by omega)]
      have ew := tkn_wn hp ht
      have cb := cnt_bd H (l := i) (by omega)
      have g := ht.2.2 i (by omega)
      have gF := hF.1 i (by omega)
      refine ev_iload_n dX0_renewScares_4 rfl ?_
      refine ev_aload_n dX0_renewScares_5 rfl ?_
      refine ev_geti 8 8 dX0_renewScares_6 (pk0 hp) rfl flX0_27 iwX2 (by decide) rfl rfl ?_
      refine ev_icmp_ge (tgt := 46) dX0_renewScares_9 (by decide) (by omega) (by omega) (fun c9 => ?_) (fun c9 => ?_)
      · exact absurd c9 (by omega)
      · refine ev_aload_n dX0_renewScares_12 rfl ?_
        refine ev_iload_n dX0_renewScares_13 rfl ?_
        refine ev_V1 (c_X2_countsFor hp (by rw [ew]; exact H) (by omega)) okX2_countsFor dX0_renewScares_14 mlX0_33 (pk0 hp) rfl ⟨by decide, by decide⟩ rfl (Nat.le_of_ble_eq_true rfl) ?_
        rw [ew]
        refine ev_istore dX0_renewScares_17 (by decide) rfl ?_
        refine ev_iload dX0_renewScares_19 rfl ?_
        refine ev_aload_n dX0_renewScares_21 rfl ?_
        refine ev_getr 1 dX0_renewScares_22 rfl rfl flX0_15 iwX0 (by decide) rfl ?_
        refine ev_iload_n dX0_renewScares_25 rfl ?_
        refine ev_iald dX0_renewScares_26 rfl (by omega) ?_
        rw [g.1]
        refine ev_icmp_eq (tgt := 40) dX0_renewScares_27 (by decide) (by omega) (by omega) (fun c27 => ?_) (fun c27 => ?_)
        · refine ev_iinc dX0_renewScares_40 rfl (by decide) rfl ?_
          refine ev_goto (tgt := 4) dX0_renewScares_43 (by decide) ?_
          refine ih (i + 1) τ ch _ rfl rfl rfl rfl (by omega) hc ?_
          obtain ⟨t1, t2, t3⟩ := ht
          refine ⟨t1, fun l hl => ?_, fun l hl => t3 l (by omega)⟩
          by_cases e : l = i
          · subst e
            refine ⟨by rw [g.1, c27], fun d hd => ?_⟩
            rw [g.2 d hd, gF.2 d hd, c27]
          · exact t2 l (by omega)
        · have ek : τ (p + 2) (τ (p + 7) i) = σ (p + 2) (σ (p + 7) i) := by rw [ht.1 (p + 2) (by omega) (by omega), ht.1 (p + 7) (by omega) (by omega)]
          refine ev_aload_n dX0_renewScares_30 rfl ?_
          refine ev_aload_n dX0_renewScares_31 rfl ?_
          refine ev_iload_n dX0_renewScares_32 rfl ?_
          refine ev_iload dX0_renewScares_33 rfl ?_
          refine ev_V0 (c_X0_takeScares hp (by rw [ew]; exact H) (by omega) (by omega)) okX0_takeScares dX0_renewScares_35 mlX0_37 rfl rfl ⟨by decide, by decide⟩ rfl (Nat.le_of_ble_eq_true rfl) ?_
          refine ev_iconst dX0_renewScares_38 ?_
          refine ev_istore_n dX0_renewScares_39 (by decide) rfl ?_
          refine ev_iinc dX0_renewScares_40 rfl (by decide) rfl ?_
          refine ev_goto (tgt := 4) dX0_renewScares_43 (by decide) ?_
          rw [ek]
          exact ih (i + 1) _ true _ rfl rfl rfl rfl (by omega) (fun q => by cases q) (tkn_take ht (by omega))
  refine ev_iconst dX0_renewScares_0 ?_
  refine ev_istore_n dX0_renewScares_1 (by decide) rfl ?_
  refine ev_iconst dX0_renewScares_2 ?_
  refine ev_istore_n dX0_renewScares_3 (by decide) rfl ?_
  exact loop n 0 σ false _ rfl rfl rfl rfl (by omega) (fun _ => rfl) ⟨fun _ _ _ => rfl, fun l hl => absurd hl (by omega), fun l hl => ⟨rfl, fun _ _ => rfl⟩⟩
