/-! the class's flock: its rows are 29 fears, 30 counts, 31 scares by distance, 32 most by owner, 33 meetings -/
def mfl (σ : ev_M) (r : Nat) (v : Int) (n : Nat) : ev_M := fun a j => if a = r ∧ 0 ≤ j ∧ j < n then v else σ a j
theorem mfl_s (σ : ev_M) (r : Nat) (v : Int) (n : Nat) : mup (mfl σ r v n) r n v = mfl σ r v (n + 1) := by
  funext a j
  simp only [mup, mfl]
  by_cases h : a = r
  · subst h
    by_cases h2 : j = (n : Int)
    · rw [if_pos ⟨rfl, h2⟩, if_pos (by omega)]
    · rw [if_neg (by omega)]
      by_cases h3 : 0 ≤ j ∧ j < n
      · rw [if_pos ⟨rfl, h3⟩, if_pos (by omega)]
      · rw [if_neg (by omega), if_neg (by omega)]
  · rw [if_neg (fun q => h q.1), if_neg (fun q => h q.1), if_neg (fun q => h q.1)]
theorem mfl_ne {σ : ev_M} {r : Nat} {v : Int} {n : Nat} {a : Nat} (h : a ≠ r) : mfl σ r v n a = σ a := by
  funext j; simp [mfl, h]
theorem c_J7_fill_53178 {b : ev_B} {σ : ev_M} {r n : Nat} {v : Int} (hr : ev_kds[r]? = some (.inr (0, n))) : CF b mJ7_fill_53178 [vR r, vI v] σ none (mfl σ r v n) := by
  refine ev_enter okJ7_fill_53178.1 (Nat.le_of_ble_eq_true rfl) ?_
  have hn := ev_small _ _ _ hr
  have loop : ∀ (m i : Nat), i + m = n → Ev b mJ7_fill_53178 5 [(0, vR r), (1, vI v), (2, vI i), (3, vI n)] [] (mfl σ r v i) (fun r' τ' => r' = none ∧ τ' = mfl σ r v n) := by
    intro m
    induction m with
    | zero =>
      intro i h
      refine ev_iload_n dJ7_fill_53178_5 rfl ?_
      refine ev_iload_n dJ7_fill_53178_6 rfl ?_
      refine ev_icmp_ge (tgt := 20) dJ7_fill_53178_7 (by decide) (by omega) (by omega) (fun c7 => ?_) (fun c7 => ?_)
      · refine ev_vret dJ7_fill_53178_20 rfl ?_
        have e : i = n := by omega
        subst e
        exact ⟨rfl, rfl⟩
      · exact absurd c7 (by omega)
    | succ m ih =>
      intro i h
      refine ev_iload_n dJ7_fill_53178_5 rfl ?_
      refine ev_iload_n dJ7_fill_53178_6 rfl ?_
      refine ev_icmp_ge (tgt := 20) dJ7_fill_53178_7 (by decide) (by omega) (by omega) (fun c7 => ?_) (fun c7 => ?_)
      · exact absurd c7 (by omega)
      · refine ev_aload_n dJ7_fill_53178_10 rfl ?_
        refine ev_iload_n dJ7_fill_53178_11 rfl ?_
        refine ev_iload_n dJ7_fill_53178_12 rfl ?_
        refine ev_iast dJ7_fill_53178_13 hr (by omega) ?_
        refine ev_iinc dJ7_fill_53178_14 rfl (by decide) rfl ?_
        refine ev_goto (tgt := 5) dJ7_fill_53178_17 (by decide) ?_
        rw [mfl_s]
        exact ih (i + 1) (by omega)
  refine ev_iconst dJ7_fill_53178_0 ?_
  refine ev_istore_n dJ7_fill_53178_1 (by decide) rfl ?_
  refine ev_aload_n dJ7_fill_53178_2 rfl ?_
  refine ev_alen0 dJ7_fill_53178_3 hr rfl ?_
  refine ev_istore_n dJ7_fill_53178_4 (by decide) rfl ?_
  have e : mfl σ r v 0 = σ := by
    funext a j
    simp only [mfl]
    rw [if_neg (by omega)]
  have l := loop n 0 (by omega)
  rw [e] at l
  exact l
/-- a likeness's row is written -/
def tks (σ : ev_M) (l kind count : Int) (n : Nat) : ev_M := fun a j => if a = 31 ∧ l * 13 ≤ j ∧ j < l * 13 + n then sp_scare kind count (j - l * 13) else mup σ 30 l count a j
theorem tks_s (σ : ev_M) (l kind count : Int) (n : Nat) : mup (tks σ l kind count n) 31 (l * 13 + n) (sp_scare kind count n) = tks σ l kind count (n + 1) := by
  funext a j
  rw [mup]
  by_cases h : a = 31 ∧ j = l * 13 + n
  · rw [if_pos h]
    unfold tks
    rw [if_pos (by omega)]
    congr 1
    omega
  · rw [if_neg h]
    unfold tks
    by_cases h2 : a = 31 ∧ l * 13 ≤ j ∧ j < l * 13 + n
    · rw [if_pos h2, if_pos (by omega)]
    · rw [if_neg h2, if_neg (by omega)]
theorem tks_ne {σ : ev_M} {l kind count : Int} {n : Nat} {a : Nat} (h : a ≠ 31) (h2 : a ≠ 30) : tks σ l kind count n a = σ a := by
  funext j
  unfold tks
  rw [if_neg (fun q => h q.1), mr1 h2]
theorem c_X0_takeScares {b : ev_B} {σ : ev_M} {p : Nat} {l count : Int} (hp : isP p) (H : okP (wn σ p)) (hl : 0 ≤ l ∧ l < σ p 8) (hc : -15 ≤ count ∧ count ≤ 35) : CF b mX0_takeScares [vR 28, vR p, vI l, vI count] σ none (tks σ l (σ (p + 2) (σ (p + 7) l)) count 13) := by
  refine ev_enter okX0_takeScares.1 (Nat.le_of_ble_eq_true rfl) ?_
  have h0 := ok0 H
  have h1 := okl H hl
  have h2 := oks H h1.2.1
  have hpb : p ≤ 19 := by rcases hp with rfl | rfl | rfl <;> omega
  have loop : ∀ (m i : Nat), i + m = 13 → Ev b mX0_takeScares 23 [(0, vR 28), (1, vR p), (2, vI l), (3, vI count), (4, vI (σ (p + 2) (σ (p + 7) l))), (5, vI i)] [] (tks σ l (σ (p + 2) (σ (p + 7) l)) count i) (fun r' τ' => r' = none ∧ τ' = tks σ l (σ (p + 2) (σ (p + 7) l)) count 13) := by
    intro m
    induction m with
    | zero =>
      intro i h
      refine ev_iload dX0_takeScares_23 rfl ?_
      refine ev_bipush dX0_takeScares_25 (by decide) ?_
      refine ev_icmp_ge (tgt := 56) dX0_takeScares_27 (by decide) (by omega) (by omega) (fun c27 => ?_) (fun c27 => ?_)
      · refine ev_vret dX0_takeScares_56 rfl ?_
        have e : i = 13 := by omega
        subst e
        exact ⟨rfl, rfl⟩
      · exact absurd c27 (by omega)
    | succ m ih =>
      intro i h
      refine ev_iload dX0_takeScares_23 rfl ?_
      refine ev_bipush dX0_takeScares_25 (by decide) ?_
      refine ev_icmp_ge (tgt := 56) dX0_takeScares_27 (by decide) (by omega) (by omega) (fun c27 => ?_) (fun c27 => ?_)
      · exact absurd c27 (by omega)
      · refine ev_aload_n dX0_takeScares_30 rfl ?_
        refine ev_getr 2 dX0_takeScares_31 rfl rfl flX0_18 iwX0 (by decide) rfl ?_
        refine ev_iload_n dX0_takeScares_34 rfl ?_
        refine ev_bipush dX0_takeScares_35 (by decide) ?_
        refine ev_imul dX0_takeScares_37 ?_
        refine ev_iload dX0_takeScares_38 rfl ?_
        refine ev_iadd dX0_takeScares_40 ?_
        refine ev_iload dX0_takeScares_41 rfl ?_
        refine ev_iload_n dX0_takeScares_43 rfl ?_
        refine ev_iload dX0_takeScares_44 rfl ?_
        refine ev_S1 (c_X1_scare (by omega) (by omega) (by omega)) okX1_scare dX0_takeScares_46 mlX0_85 ⟨by decide, by decide⟩ rfl (Nat.le_of_ble_eq_true rfl) ?_
        refine ev_iast dX0_takeScares_49 rfl (by omega) ?_
        refine ev_iinc dX0_takeScares_50 rfl (by decide) rfl ?_
        refine ev_goto (tgt := 23) dX0_takeScares_53 (by decide) ?_
        rw [tks_s]
        exact ih (i + 1) (by omega)
  refine ev_aload_n dX0_takeScares_0 rfl ?_
  refine ev_getr 1 dX0_takeScares_1 rfl rfl flX0_15 iwX0 (by decide) rfl ?_
  refine ev_iload_n dX0_takeScares_4 rfl ?_
  refine ev_iload_n dX0_takeScares_5 rfl ?_
  refine ev_iast dX0_takeScares_6 rfl (by omega) ?_
  refine ev_aload_n dX0_takeScares_7 rfl ?_
  refine ev_getr 4 dX0_takeScares_8 (pk0 hp) rfl flX0_79 iwX2 (by decide) rfl ?_
  refine ev_aload_n dX0_takeScares_11 rfl ?_
  refine ev_getr 10 dX0_takeScares_12 (pk0 hp) rfl flX0_82 iwX2 (by decide) rfl ?_
  refine ev_iload_n dX0_takeScares_15 rfl ?_
  refine ev_iald dX0_takeScares_16 (pk7 hp) (by omega) ?_
  simp (disch := omega) only [mr1, mr2, mr3, cr1, cr2, cr3]
  refine ev_iald dX0_takeScares_17 (pk2 hp) (by omega) ?_
  simp (disch := omega) only [mr1, mr2, mr3, cr1, cr2, cr3]
  refine ev_istore dX0_takeScares_18 (by decide) rfl ?_
  refine ev_iconst dX0_takeScares_20 ?_
  refine ev_istore dX0_takeScares_21 (by decide) rfl ?_
  have e : tks σ l (σ (p + 2) (σ (p + 7) l)) count 0 = mup σ 30 l count := by
    funext a j
    unfold tks
    rw [if_neg (by omega)]
  have q := loop 13 0 (by omega)
  rw [e] at q
  exact q
/-! the fear of a cell -/
def tbl (σ : ev_M) : Int → Int → Int := fun l d => σ 31 (l * 13 + d)
theorem mst_bd {P : ev_M} {pr : Int → Bool} {tb : Int → Int → Int} {c k s : Int} (hs : -1000000 ≤ s ∧ s ≤ 1000) : ∀ {n : Nat}, (∀ l : Nat, l < n → -1000 ≤ tb l (sp_dist (P 6 l) c) ∧ tb l (sp_dist (P 6 l) c) ≤ 1000) → -1000000 ≤ mst P pr tb c k s n ∧ mst P pr tb c k s n ≤ 1000
  | 0, _ => by unfold mst; omega
  | n + 1, h => by
    have h1 := mst_bd (P := P) (pr := pr) (tb := tb) (c := c) (k := k) hs (n := n) (fun l hl => h l (by omega))
    have h2 := h n (by omega)
    unfold mst
    split <;> omega
theorem c_X0_fearAt {b : ev_B} {σ : ev_M} {p : Nat} {c : Int} (hp : isP p) (H : okP (wn σ p)) (hc : 0 ≤ c ∧ c < 48) (hT : ∀ l d : Int, 0 ≤ l ∧ l < σ p 8 → 0 ≤ d ∧ d < 13 → -1000 ≤ tbl σ l d ∧ tbl σ l d ≤ 1000) : Cl b mX0_fearAt [vR 28, vR p, vI c] σ (fun r τ => r = some (vI (fearT (wn σ p) allp (tbl σ) (-1000000) c)) ∧ ∀ a : Nat, a ≠ 32 → τ a = σ a) := by
  refine ev_enter okX0_fearAt.1 (Nat.le_of_ble_eq_true rfl) ?_
  have h0 := ok0 H
  have hpb : p ≤ 19 := by rcases hp with rfl | rfl | rfl <;> omega
  obtain ⟨n, hn, hn2⟩ := nn_ex h0.2.2.2.1
  obtain ⟨ns, hns, hns2⟩ := nn_ex h0.2.2.1.1
  generalize hM : (fun k => mst (wn σ p) allp (tbl σ) c k (-1000000) n) = M
  have hfe : fearT (wn σ p) allp (tbl σ) (-1000000) c = sm (fun k => if M k = -1000000 then 0 else M k) ns := by
    unfold fearT
    rw [wn0, wn0, hn2, hns2, ← hM]
  rw [hfe]
  have htd : ∀ l : Nat, l < n → -1000 ≤ tbl σ l (sp_dist (wn σ p 6 l) c) ∧ tbl σ l (sp_dist (wn σ p 6 l) c) ≤ 1000 := by
    intro l hl
    have q := okl H (l := l) (by omega)
    have q2 := sp_dist_bd q.1 hc
    exact hT l _ (by omega) q2
  have hMb : ∀ k, -1000000 ≤ M k ∧ M k ≤ 1000 := fun k => by rw [← hM]; exact mst_bd (by omega) htd
  have sum : ∀ (τ : ev_M), (∀ a : Nat, a ≠ 32 → τ a = σ a) → (∀ k : Int, 0 ≤ k ∧ k < 6 → τ 32 k = M k) → ∀ (m i : Nat), i + m = ns → Ev b mX0_fearAt 79 [(0, vR 28), (1, vR p), (2, vI c), (3, vI (sm (fun k => if M k = -1000000 then 0 else M k) i)), (4, vI i)] [] τ (fun r τ => r = some (vI (sm (fun k => if M k = -1000000 then 0 else M k) ns)) ∧ ∀ a : Nat, a ≠ 32 → τ a = σ a) := by
    intro τ f1 f2 m
    have e3 : τ p 3 = ns := by rw [f1 p (by omega)]; exact hns
    induction m with
    | zero =>
      intro i h
      refine ev_iload dX0_fearAt_79 rfl ?_
      refine ev_aload_n dX0_fearAt_81 rfl ?_
      refine ev_geti 3 3 dX0_fearAt_82 (pk0 hp) rfl flX0_41 iwX2 (by decide) rfl rfl ?_
      refine ev_icmp_ge (tgt := 116) dX0_fearAt_85 (by decide) (by omega) (by omega) (fun c85 => ?_) (fun c85 => ?_)
      · refine ev_iload_n dX0_fearAt_116 rfl ?_
        refine ev_iret dX0_fearAt_117 rfl rfl ?_
        have e : i = ns := by omega
        subst e
        exact ⟨rfl, f1⟩
      · exact absurd c85 (by omega)
    | succ m ih =>
      intro i h
      have e4 := f2 i (by omega)
      have hb := hMb i
      refine ev_iload dX0_fearAt_79 rfl ?_
      refine ev_aload_n dX0_fearAt_81 rfl ?_
      refine ev_geti 3 3 dX0_fearAt_82 (pk0 hp) rfl flX0_41 iwX2 (by decide) rfl rfl ?_
      refine ev_icmp_ge (tgt := 116) dX0_fearAt_85 (by decide) (by omega) (by omega) (fun c85 => ?_) (fun c85 => ?_)
      · exact absurd c85 (by omega)
      · refine ev_aload_n dX0_fearAt_88 rfl ?_
        refine ev_getr 3 dX0_fearAt_89 rfl rfl flX0_21 iwX0 (by decide) rfl ?_
        refine ev_iload dX0_fearAt_92 rfl ?_
        refine ev_iald dX0_fearAt_94 rfl (by omega) ?_
        refine ev_ldc (z := -1000000) dX0_fearAt_95 kcX0_95 (by decide) ?_
        refine ev_icmp_eq (tgt := 110) dX0_fearAt_97 (by decide) (by omega) (by omega) (fun c97 => ?_) (fun c97 => ?_)
        · refine ev_iinc dX0_fearAt_110 rfl (by decide) rfl ?_
          refine ev_goto (tgt := 79) dX0_fearAt_113 (by decide) ?_
          have e : sm (fun k => if M k = -1000000 then 0 else M k) i = sm (fun k => if M k = -1000000 then 0 else M k) (i + 1) := by
            rw [sm]
            try simp only []
            rw [if_pos (by omega), Int.add_zero]
          rw [e]
          exact ih (i + 1) (by omega)
        · refine ev_iload_n dX0_fearAt_100 rfl ?_
          refine ev_aload_n dX0_fearAt_101 rfl ?_
          refine ev_getr 3 dX0_fearAt_102 rfl rfl flX0_21 iwX0 (by decide) rfl ?_
          refine ev_iload dX0_fearAt_105 rfl ?_
          refine ev_iald dX0_fearAt_107 rfl (by omega) ?_
          refine ev_iadd dX0_fearAt_108 ?_
          refine ev_istore_n dX0_fearAt_109 (by decide) rfl ?_
          refine ev_iinc dX0_fearAt_110 rfl (by decide) rfl ?_
          refine ev_goto (tgt := 79) dX0_fearAt_113 (by decide) ?_
          have e : sm (fun k => if M k = -1000000 then 0 else M k) i + τ 32 i = sm (fun k => if M k = -1000000 then 0 else M k) (i + 1) := by
            rw [sm]
            try simp only []
            rw [if_neg (by omega), e4]
          rw [e]
          exact ih (i + 1) (by omega)
  have loop : ∀ (m i : Nat) (τ : ev_M) (ls : List (Nat × ev_V)), ev_lk ls 0 = some (vR 28) → ev_lk ls 1 = some (vR p) → ev_lk ls 2 = some (vI c) → ev_lk ls 3 = some (vI i) → i + m = n → (∀ a : Nat, a ≠ 32 → τ a = σ a) → (∀ k : Int, 0 ≤ k ∧ k < 6 → τ 32 k = mst (wn σ p) allp (tbl σ) c k (-1000000) i) → Ev b mX0_fearAt 11 ls [] τ (fun r τ => r = some (vI (sm (fun k => if M k = -1000000 then 0 else M k) ns)) ∧ ∀ a : Nat, a ≠ 32 → τ a = σ a) := by
    intro m
    induction m with
    | zero =>
      intro i τ ls l0 l1 l2 l3 h f1 f2
      refine Ev.lsub (ls' := [(0, vR 28), (1, vR p), (2, vI c), (3, vI i)]) (by simp [l0, l1, l2, l3]) ?_
      have e8 : τ p 8 = n := by rw [f1 p (by omega)]; exact hn
      refine ev_iload_n dX0_fearAt_11 rfl ?_
      refine ev_aload_n dX0_fearAt_12 rfl ?_
      refine ev_geti 8 8 dX0_fearAt_13 (pk0 hp) rfl flX0_27 iwX2 (by decide) rfl rfl ?_
      refine ev_icmp_ge (tgt := 74) dX0_fearAt_16 (by decide) (by omega) (by omega) (fun c16 => ?_) (fun c16 => ?_)
      · refine ev_iconst dX0_fearAt_74 ?_
        refine ev_istore_n dX0_fearAt_75 (by decide) rfl ?_
        refine ev_iconst dX0_fearAt_76 ?_
        refine ev_istore dX0_fearAt_77 (by decide) rfl ?_
        have e : i = n := by omega
        subst e
        exact sum τ f1 (fun k hk => by rw [f2 k hk, ← hM]) ns 0 (by omega)
      · exact absurd c16 (by omega)
    | succ m ih =>
      intro i τ ls l0 l1 l2 l3 h f1 f2
      refine Ev.lsub (ls' := [(0, vR 28), (1, vR p), (2, vI c), (3, vI i)]) (by simp [l0, l1, l2, l3]) ?_
      have e8 : τ p 8 = n := by rw [f1 p (by omega)]; exact hn
      have q := okl H (l := i) (by omega)
      have e6 : τ (p + 6) i = σ (p + 6) i := by rw [f1 (p + 6) (by omega)]
      have e7 : τ (p + 7) i = σ (p + 7) i := by rw [f1 (p + 7) (by omega)]
      have e31 : ∀ x, τ 31 x = σ 31 x := fun x => by rw [f1 31 (by omega)]
      have qd := sp_dist_bd q.1 hc
      have qt := hT i (sp_dist (σ (p + 6) i) c) (by omega) qd
      unfold tbl at qt
      have qm := f2 (σ (p + 7) i) (by omega)
      have qb := mst_bd (P := wn σ p) (pr := allp) (tb := tbl σ) (c := c) (k := σ (p + 7) i) (s := -1000000) (by omega) (n := i) (fun l hl => htd l (by omega))
      refine ev_iload_n dX0_fearAt_11 rfl ?_
      refine ev_aload_n dX0_fearAt_12 rfl ?_
      refine ev_geti 8 8 dX0_fearAt_13 (pk0 hp) rfl flX0_27 iwX2 (by decide) rfl rfl ?_
      refine ev_icmp_ge (tgt := 74) dX0_fearAt_16 (by decide) (by omega) (by omega) (fun c16 => ?_) (fun c16 => ?_)
      · exact absurd c16 (by omega)
      · refine ev_aload_n dX0_fearAt_19 rfl ?_
        refine ev_getr 10 dX0_fearAt_20 (pk0 hp) rfl flX0_82 iwX2 (by decide) rfl ?_
        refine ev_iload_n dX0_fearAt_23 rfl ?_
        refine ev_iald dX0_fearAt_24 (pk7 hp) (by omega) ?_
        rw [e7]
        refine ev_istore dX0_fearAt_25 (by decide) rfl ?_
        refine ev_aload_n dX0_fearAt_27 rfl ?_
        refine ev_getr 2 dX0_fearAt_28 rfl rfl flX0_18 iwX0 (by decide) rfl ?_
        refine ev_iload_n dX0_fearAt_31 rfl ?_
        refine ev_bipush dX0_fearAt_32 (by decide) ?_
        refine ev_imul dX0_fearAt_34 ?_
        refine ev_aload_n dX0_fearAt_35 rfl ?_
        refine ev_getr 9 dX0_fearAt_36 (pk0 hp) rfl flX0_102 iwX2 (by decide) rfl ?_
        refine ev_iload_n dX0_fearAt_39 rfl ?_
        refine ev_iald dX0_fearAt_40 (pk6 hp) (by omega) ?_
        rw [e6]
        refine ev_iload_n dX0_fearAt_41 rfl ?_
        refine ev_SN1 (c_X5_distanceOf (by omega) (by omega)) okX5_distanceOf dX0_fearAt_42 nlX0_105 ⟨by decide, by decide⟩ rfl (Nat.le_of_ble_eq_true rfl) ?_
        refine ev_iadd dX0_fearAt_45 ?_
        refine ev_iald dX0_fearAt_46 rfl (by omega) ?_
        rw [e31]
        refine ev_istore dX0_fearAt_47 (by decide) rfl ?_
        refine ev_aload_n dX0_fearAt_49 rfl ?_
        refine ev_getr 3 dX0_fearAt_50 rfl rfl flX0_21 iwX0 (by decide) rfl ?_
        refine ev_iload dX0_fearAt_53 rfl ?_
        refine ev_aload_n dX0_fearAt_55 rfl ?_
        refine ev_getr 3 dX0_fearAt_56 rfl rfl flX0_21 iwX0 (by decide) rfl ?_
        refine ev_iload dX0_fearAt_59 rfl ?_
        refine ev_iald dX0_fearAt_61 rfl (by omega) ?_
        refine ev_iload dX0_fearAt_62 rfl ?_
        rw [qm]
        refine ev_mmax dX0_fearAt_64 mlX0_108 ma_max (by omega) (by omega) ⟨by decide, Nat.le_of_ble_eq_true rfl⟩ ?_
        refine ev_iast dX0_fearAt_67 rfl (by omega) ?_
        refine ev_iinc dX0_fearAt_68 rfl (by decide) rfl ?_
        refine ev_goto (tgt := 11) dX0_fearAt_71 (by decide) ?_
        refine ih (i + 1) _ _ rfl rfl rfl rfl (by omega) (fun a ha => ?_) (fun k hk => ?_)
        · simp (disch := omega) only [fr1]
          exact f1 a ha
        · rw [mst]
          by_cases hk2 : σ (p + 7) i = k
          · subst hk2
            rw [if_pos ⟨rfl, rfl⟩]
            simp (disch := omega) only [mr1, mr2, mr3, cr1, cr2, cr3]
            rfl
          · rw [if_neg (fun w => hk2 w.1)]
            simp (disch := omega) only [mr1, mr2, mr3, cr1, cr2, cr3]
            exact f2 k hk
  refine ev_aload_n dX0_fearAt_0 rfl ?_
  refine ev_getr 3 dX0_fearAt_1 rfl rfl flX0_21 iwX0 (by decide) rfl ?_
  refine ev_ldc (z := -1000000) dX0_fearAt_4 kcX0_95 (by decide) ?_
  refine ev_S0 (c_J7_fill_53178 (r := 32) (n := 6) rfl) okJ7_fill_53178 dX0_fearAt_6 mlX0_96 ⟨by decide, by decide⟩ rfl (Nat.le_of_ble_eq_true rfl) ?_
  refine ev_iconst dX0_fearAt_9 ?_
  refine ev_istore_n dX0_fearAt_10 (by decide) rfl ?_
  refine loop n 0 _ _ rfl rfl rfl rfl (by omega) (fun a ha => mfl_ne ha) (fun k hk => ?_)
  show (if 32 = 32 ∧ 0 ≤ k ∧ k < ((6 : Nat) : Int) then (-1000000 : Int) else σ 32 k) = _
  rw [if_pos (by omega)]
  rfl
theorem c_X0_weighFears {b : ev_B} {σ : ev_M} {p : Nat} (hp : isP p) (H : okP (wn σ p)) (hT : ∀ l d : Int, 0 ≤ l ∧ l < σ p 8 → 0 ≤ d ∧ d < 13 → -1000 ≤ tbl σ l d ∧ tbl σ l d ≤ 1000) : Cl b mX0_weighFears [vR 28, vR p] σ (fun r τ => r = none ∧ (∀ c : Int, 0 ≤ c ∧ c < 48 → τ 29 c = fearT (wn σ p) allp (tbl σ) (-1000000) c) ∧ ∀ a : Nat, a ≠ 29 → a ≠ 32 → τ a = σ a) := by
  refine ev_enter okX0_weighFears.1 (Nat.le_of_ble_eq_true rfl) ?_
  have hpb : p ≤ 19 := by rcases hp with rfl | rfl | rfl <;> omega
  have loop : ∀ (m i : Nat) (τ : ev_M), i + m = 48 → (∀ c : Int, 0 ≤ c ∧ c < i → τ 29 c = fearT (wn σ p) allp (tbl σ) (-1000000) c) → (∀ a : Nat, a ≠ 29 → a ≠ 32 → τ a = σ a) → Ev b mX0_weighFears 2 [(0, vR 28), (1, vR p), (2, vI i)] [] τ (fun r τ => r = none ∧ (∀ c : Int, 0 ≤ c ∧ c < 48 → τ 29 c = fearT (wn σ p) allp (tbl σ) (-1000000) c) ∧ ∀ a : Nat, a ≠ 29 → a ≠ 32 → τ a = σ a) := by
    intro m
    induction m with
    | zero =>
      intro i τ h f1 f2
      refine ev_iload_n dX0_weighFears_2 rfl ?_
      refine ev_bipush dX0_weighFears_3 (by decide) ?_
      refine ev_icmp_ge (tgt := 26) dX0_weighFears_5 (by decide) (by omega) (by omega) (fun c5 => ?_) (fun c5 => ?_)
      · refine ev_vret dX0_weighFears_26 rfl ?_
        exact ⟨rfl, fun c hc => f1 c (by omega), f2⟩
      · exact absurd c5 (by omega)
    | succ m ih =>
      intro i τ h f1 f2
      have ew : wn τ p = wn σ p := wn_congr (fun j hj => f2 (p + j) (by omega) (by omega))
      have et : tbl τ = tbl σ := by unfold tbl; rw [f2 31 (by omega) (by omega)]
      refine ev_iload_n dX0_weighFears_2 rfl ?_
      refine ev_bipush dX0_weighFears_3 (by decide) ?_
      refine ev_icmp_ge (tgt := 26) dX0_weighFears_5 (by decide) (by omega) (by omega) (fun c5 => ?_) (fun c5 => ?_)
      · exact absurd c5 (by omega)
      · refine ev_aload_n dX0_weighFears_8 rfl ?_
        refine ev_getr 0 dX0_weighFears_9 rfl rfl flX0_9 iwX0 (by decide) rfl ?_
        refine ev_iload_n dX0_weighFears_12 rfl ?_
        refine ev_aload_n dX0_weighFears_13 rfl ?_
        refine ev_aload_n dX0_weighFears_14 rfl ?_
        refine ev_iload_n dX0_weighFears_15 rfl ?_
        refine ev_callV (c_X0_fearAt (c := i) hp (by rw [ew]; exact H) (by omega) (by rw [et, f2 p (by omega) (by omega)]; exact hT)) okX0_fearAt dX0_weighFears_16 mlX0_91 rfl rfl ⟨by decide, by decide⟩ rfl (Nat.le_of_ble_eq_true rfl) (fun r16 τ16 h16 => ?_)
        obtain ⟨rfl, g⟩ := h16
        rw [ew, et]
        refine ev_iast dX0_weighFears_19 rfl (by omega) ?_
        refine ev_iinc dX0_weighFears_20 rfl (by decide) rfl ?_
        refine ev_goto (tgt := 2) dX0_weighFears_23 (by decide) ?_
        refine ih (i + 1) _ (by omega) (fun c hc => ?_) (fun a h29 h32 => ?_)
        · by_cases hci : c = i
          · subst hci
            simp (disch := omega) only [mr1, mr2, mr3, cr1, cr2, cr3]
          · simp (disch := omega) only [mr1, mr2, mr3, cr1, cr2, cr3]
            rw [g 29 (by omega)]
            exact f1 c (by omega)
        · simp (disch := omega) only [fr1]
          rw [g a h32]
          exact f2 a h29 h32
  refine ev_iconst dX0_weighFears_0 ?_
  refine ev_istore_n dX0_weighFears_1 (by decide) rfl ?_
  exact loop 48 0 σ (by omega) (fun c hc => absurd hc (by omega)) (fun _ _ _ => rfl)
