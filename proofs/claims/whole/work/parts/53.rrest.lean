/-! the model's tape, images, counts -/
theorem fdM_ne {σ : ev_M} {a o : Nat} {f x n : Int} {y : Nat} (h1 : y ≠ a) (h2 : y ≠ o) : ∀ j : Nat, fdM σ a o f x n j y = σ y
  | 0 => rfl
  | j + 1 => by unfold fdM; rw [mup_ne h2, mup_ne h1, fdM_ne h1 h2 j]
theorem fdM_o {σ : ev_M} {a o : Nat} {f x n i : Int} (h : a ≠ o) (hi : i ≠ f) : ∀ j : Nat, fdM σ a o f x n j o i = σ o i
  | 0 => rfl
  | j + 1 => by unfold fdM; rw [mup_off hi, mup_ne (Ne.symm h), fdM_o h hi j]
theorem fdM_row {σ : ev_M} {x n : Int} : ∀ j : Nat, fdM (prj σ) 35 34 1 x n j 35 = fdM σ 55 46 11 x n j 55
  | 0 => rfl
  | j + 1 => by
    have ih := fdM_row (σ := σ) (x := x) (n := n) j
    have e1 := fdM_of (σ := prj σ) (a := 35) (o := 34) (f := 1) (x := x) (n := n) (by decide) j
    have e2 := fdM_of (σ := σ) (a := 55) (o := 46) (f := 11) (x := x) (n := n) (by decide) j
    unfold fdM
    rw [mup_ne (k := 34) (a := 35) (by decide), mup_ne (k := 46) (a := 55) (by decide), mup_row, mup_row, ih, e1, e2]
    rfl
/-- REL where all but the tape is the same -/
theorem REL_tape {σ τ A : ev_M} (hA : ∀ a : Nat, a ≠ 34 → a ≠ 35 → A a = prj σ a) (ht : ∀ a : Nat, 47 ≤ a → a ≠ 55 → τ a = σ a) (h5 : τ 46 5 = σ 46 5) (hl : A 34 1 = τ 46 11) (hb : ∀ i : Int, 0 ≤ i ∧ i < τ 46 11 → A 35 i = τ 55 i) : REL A (prj τ) := by
  have e : ∀ a : Nat, a ≠ 0 → a ≠ 34 → a ≠ 35 → prj τ a = prj σ a := fun a h1 h2 h3 => by
    funext i
    unfold prj
    rw [if_neg h1, if_neg h1, if_neg h2, if_neg h2, if_neg h3, if_neg h3, ht 47 (by omega) (by omega), ht 48 (by omega) (by omega), ht 51 (by omega) (by omega), ht 56 (by omega) (by omega), ht 57 (by omega) (by omega), ht 58 (by omega) (by omega)]
  refine ⟨?_, ?_, ?_, hl, hb, fun q hq => ?_, fun i hi => ?_⟩
  · rw [wn_congr (σ := prj σ) (fun j hj => hA (1 + j) (by omega) (by omega)), wn_congr (σ := prj σ) (τ := prj τ) (fun j hj => e (1 + j) (by omega) (by omega) (by omega))]
    exact eqP_rf
  · rw [wn_congr (σ := prj σ) (fun j hj => hA (10 + j) (by omega) (by omega)), wn_congr (σ := prj σ) (τ := prj τ) (fun j hj => e (10 + j) (by omega) (by omega) (by omega))]
    exact eqP_rf
  · rw [hA 0 (by omega) (by omega)]; exact h5.symm
  · have hb : 37 ≤ q := by rcases hq with rfl | rfl | rfl | rfl <;> omega
    rw [hA q (by omega) (by omega), hA (q + 1) (by omega) (by omega), e q (by omega) (by omega) (by omega), e (q + 1) (by omega) (by omega) (by omega)]
    exact ⟨rfl, rfl, fun _ _ => rfl⟩
  · rw [hA 45 (by omega) (by omega), e 45 (by omega) (by omega) (by omega)]
theorem c_X6_feed {b : ev_B} {σ : ev_M} {x n : Int} (ht : 0 ≤ σ 46 11 ∧ σ 46 11 ≤ 120) (ha : σ 46 6 = 0) (h1 : (-2147483648 ≤ x ∧ x < 2147483648)) (h2 : (-2147483648 ≤ n ∧ n < 2147483648)) : Cl b mX6_feed [vR 46, vI x, vI n] σ (RP σ (sc_feed (prj σ) x n)) := by
  refine ev_enter okX6_feed.1 (Nat.le_of_ble_eq_true rfl) ?_
  unfold sc_feed
  have p34 : prj σ 34 1 = σ 46 11 := rfl
  rw [p34]
  have loop : ∀ (m j : Nat), j + m = n.toNat → 1 ≤ n → n ≤ 4 → σ 46 11 + n ≤ 120 → Ev b mX6_feed 41 [(0, vR 46), (1, vI x), (2, vI n), (3, vI (n - 1 - j))] [] (fdM σ 55 46 11 x n j) (RP σ (σ 46 11 + n, fdM (prj σ) 35 34 1 x n n.toNat)) := by
    intro m
    induction m with
    | zero =>
      intro j h g1 g2 g3
      have e := fdM_of (σ := σ) (a := 55) (o := 46) (f := 11) (x := x) (n := n) (by decide) j
      refine ev_iload_n dX6_feed_41 rfl ?_
      refine ev_if_lt (tgt := 80) dX6_feed_42 (by decide) (by omega) (fun c42 => ?_) (fun c42 => ?_)
      · refine ev_aload_n dX6_feed_80 rfl ?_
        refine ev_geti 11 11 dX6_feed_81 rfl rfl flX6_211 iwX6 (by decide) rfl rfl ?_
        refine ev_iret dX6_feed_84 rfl rfl ?_
        rw [e, show n.toNat = j by omega]
        have e2 := fdM_of (σ := prj σ) (a := 35) (o := 34) (f := 1) (x := x) (n := n) (by decide) j
        refine ⟨by rw [show ((j : Nat) : Int) = n by omega], REL_tape (σ := σ) (fun a q1 q2 => fdM_ne q2 q1 j) (fun a q1 q2 => fdM_ne q2 (by omega) j) (fdM_o (by decide) (by decide) j) ?_ (fun i _ => by show fdM (prj σ) 35 34 1 x n j 35 i = _; rw [fdM_row]), fun a q => fdM_ne (by omega) (by omega) j, by rw [fdM_o (by decide) (by decide)]; exact ha⟩
        show fdM (prj σ) 35 34 1 x n j 34 1 = fdM σ 55 46 11 x n j 46 11
        rw [e, e2, p34]
      · exact absurd c42 (by omega)
    | succ m ih =>
      intro j h g1 g2 g3
      have e := fdM_of (σ := σ) (a := 55) (o := 46) (f := 11) (x := x) (n := n) (by decide) j
      refine ev_iload_n dX6_feed_41 rfl ?_
      refine ev_if_lt (tgt := 80) dX6_feed_42 (by decide) (by omega) (fun c42 => ?_) (fun c42 => ?_)
      · exact absurd c42 (by omega)
      · refine ev_aload_n dX6_feed_45 rfl ?_
        refine ev_getr 10 dX6_feed_46 rfl rfl flX6_34 iwX6 (by decide) rfl ?_
        refine ev_aload_n dX6_feed_49 rfl ?_
        refine ev_geti 11 11 dX6_feed_50 rfl rfl flX6_211 iwX6 (by decide) rfl rfl ?_
        refine ev_iload_n dX6_feed_53 rfl ?_
        refine ev_bipush dX6_feed_54 (by decide) ?_
        refine ev_iload_n dX6_feed_56 rfl ?_
        refine ev_imul dX6_feed_57 ?_
        refine ev_ishr dX6_feed_58 (Int32.ofInt_toInt _).symm ?_
        refine ev_sipush dX6_feed_59 (by decide) ?_
        refine ev_iand dX6_feed_62 (Int32.ofInt_toInt _).symm ?_
        refine ev_iast dX6_feed_63 rfl (by omega) ?_
        refine ev_aload_n dX6_feed_64 rfl ?_
        refine ev_dup dX6_feed_65 rfl ?_
        refine ev_geti 11 11 dX6_feed_66 rfl rfl flX6_211 iwX6 (by decide) rfl rfl ?_
        rw [show mup (fdM σ 55 46 11 x n j) 55 (fdM σ 55 46 11 x n j 46 11) _ 46 11 = fdM σ 55 46 11 x n j 46 11 by rw [mup_ne (by decide)]]
        refine ev_iconst dX6_feed_69 ?_
        refine ev_iadd dX6_feed_70 ?_
        refine ev_put (ty := .int) 11 11 dX6_feed_71 rfl rfl flX6_211 iwX6 tyX6_ok nmX6 (by decide) rfl rfl (by decide +kernel) rfl rfl rfl ?_
        refine ev_iinc dX6_feed_74 rfl (by decide) rfl ?_
        refine ev_goto (tgt := 41) dX6_feed_77 (by decide) ?_
        have l := ih (j + 1) (by omega) g1 g2 g3
        rw [show n - 1 - ((j + 1 : Nat) : Int) = n - 1 - j + -1 by omega] at l
        exact l
  refine ev_iload_n dX6_feed_0 rfl ?_
  refine ev_i2l dX6_feed_1 (by omega) ?_
  refine ev_lconst (z := 1) dX6_feed_2 rfl ?_
  refine ev_ldc2 (z := 4) dX6_feed_3 klX6_146 (by decide) ?_
  refine ev_Sbne (tgt := 19) (c_X6_in (by omega) (by omega) (by omega)) okX6_in dX6_feed_6 mlX6_53 ⟨by decide, by decide⟩ rfl (Nat.le_of_ble_eq_true rfl) dX6_feed_9 (by decide) (fun c6 => ?_) (fun c6 => ?_)
  · rw [if_neg (by omega)]
    refine ev_aload_n dX6_feed_19 rfl ?_
    refine ev_geti 11 11 dX6_feed_20 rfl rfl flX6_211 iwX6 (by decide) rfl rfl ?_
    refine ev_iload_n dX6_feed_23 rfl ?_
    refine ev_iadd dX6_feed_24 ?_
    refine ev_bipush dX6_feed_25 (by decide) ?_
    refine ev_icmp_le (tgt := 37) dX6_feed_27 (by decide) (by omega) (by omega) (fun c27 => ?_) (fun c27 => ?_)
    · rw [if_neg (by omega)]
      refine ev_iload_n dX6_feed_37 rfl ?_
      refine ev_iconst dX6_feed_38 ?_
      refine ev_isub dX6_feed_39 ?_
      refine ev_istore_n dX6_feed_40 (by decide) rfl ?_
      have l := loop n.toNat 0 (by omega) (by omega) (by omega) (by omega)
      rw [show n - 1 - ((0 : Nat) : Int) = n - 1 by omega] at l
      exact l
    · rw [if_pos (by omega)]
      refine ev_aload_n dX6_feed_30 rfl ?_
      refine ev_ldc (z := -1000000002) dX6_feed_31 kcX6_117 (by decide) ?_
      refine ev_V1 (c_X6_finds (by omega)) okX6_finds dX6_feed_33 mlX6_101 rfl rfl ⟨by decide, by decide⟩ rfl (Nat.le_of_ble_eq_true rfl) ?_
      refine ev_iret dX6_feed_36 rfl rfl ?_
      exact RP_fnd ha
  · rw [if_pos (by omega)]
    refine ev_aload_n dX6_feed_12 rfl ?_
    refine ev_ldc (z := -1000000001) dX6_feed_13 kcX6_50 (by decide) ?_
    refine ev_V1 (c_X6_finds (by omega)) okX6_finds dX6_feed_15 mlX6_101 rfl rfl ⟨by decide, by decide⟩ rfl (Nat.le_of_ble_eq_true rfl) ?_
    refine ev_iret dX6_feed_18 rfl rfl ?_
    exact RP_fnd ha
theorem c_X6_wipe {b : ev_B} {σ : ev_M} (ha : σ 46 6 = 0) : Cl b mX6_wipe [vR 46] σ (RP σ (sc_wipe (prj σ))) := by
  refine ev_enter okX6_wipe.1 (Nat.le_of_ble_eq_true rfl) ?_
  refine ev_aload_n dX6_wipe_0 rfl ?_
  refine ev_geti 11 11 dX6_wipe_1 rfl rfl flX6_211 iwX6 (by decide) rfl rfl ?_
  refine ev_istore_n dX6_wipe_4 (by decide) rfl ?_
  refine ev_aload_n dX6_wipe_5 rfl ?_
  refine ev_iconst dX6_wipe_6 ?_
  refine ev_put (ty := .int) 11 11 dX6_wipe_7 rfl rfl flX6_211 iwX6 tyX6_ok nmX6 (by decide) rfl rfl (by decide +kernel) rfl rfl rfl ?_
  refine ev_iload_n dX6_wipe_10 rfl ?_
  refine ev_iret dX6_wipe_11 rfl rfl ?_
  refine ⟨rfl, REL_tape (σ := σ) (fun a q1 q2 => mup_ne q1) (fun a q1 q2 => mup_ne (by omega)) (by rw [mup_off (by decide)]) ?_ (fun i hi => ?_), fun a q => mup_ne (by omega), by rw [mup_off (by decide)]; exact ha⟩
  · show mup (prj σ) 34 1 0 34 1 = mup σ 46 11 0 46 11
    rw [mup_at, mup_at]
  · rw [mup_at] at hi; omega
theorem c_X6_tear {b : ev_B} {σ : ev_M} (ha : σ 46 6 = 0) (h7 : σ 46 5 = 0 ∨ σ 46 5 = 1) : Cl b mX6_tear [vR 46] σ (RP σ (sc_tear (prj σ))) := by
  refine ev_enter okX6_tear.1 (Nat.le_of_ble_eq_true rfl) ?_
  unfold sc_tear
  have p0 : prj σ 0 7 = σ 46 5 := rfl
  rw [p0]
  have fin : ∀ v : Int, v = σ 46 5 → RP σ (σ 46 5, mup (prj σ) 0 7 0) (some (vI v)) (mup σ 46 5 0) := by
    intro v hv
    subst hv
    refine ⟨rfl, ⟨?_, ?_, ?_, ?_, fun i hi => ?_, fun q hq => ?_, fun i hi => ?_⟩, fun a q => mup_ne (by omega), by rw [mup_off (by decide)]; exact ha⟩
    · exact eqP_rf
    · exact eqP_rf
    · show mup (prj σ) 0 7 0 0 7 = mup σ 46 5 0 46 5
      rw [mup_at, mup_at]
    · show σ 46 11 = mup σ 46 5 0 46 11
      rw [mup_off (by decide)]
    · rfl
    · rcases hq with rfl | rfl | rfl | rfl <;> exact ⟨rfl, rfl, fun _ _ => rfl⟩
    · rfl
  refine ev_aload_n dX6_tear_0 rfl ?_
  refine ev_geti 5 5 dX6_tear_1 rfl rfl flX6_328 iwX6 (by decide) rfl rfl ?_
  refine ev_if_eq (tgt := 11) dX6_tear_4 (by decide) (by omega) (fun c4 => ?_) (fun c4 => ?_)
  · refine ev_iconst dX6_tear_11 ?_
    refine ev_istore_n dX6_tear_12 (by decide) rfl ?_
    refine ev_aload_n dX6_tear_13 rfl ?_
    refine ev_iconst dX6_tear_14 ?_
    refine ev_put (ty := .boolean) 5 5 dX6_tear_15 rfl rfl flX6_328 iwX6 tyX6_ok nmX6 (by decide) rfl rfl (by decide +kernel) rfl rfl rfl ?_
    refine ev_iload_n dX6_tear_18 rfl ?_
    refine ev_iret dX6_tear_19 rfl rfl ?_
    exact fin 0 c4.symm
  · refine ev_iconst dX6_tear_7 ?_
    refine ev_goto (tgt := 12) dX6_tear_8 (by decide) ?_
    refine ev_istore_n dX6_tear_12 (by decide) rfl ?_
    refine ev_aload_n dX6_tear_13 rfl ?_
    refine ev_iconst dX6_tear_14 ?_
    refine ev_put (ty := .boolean) 5 5 dX6_tear_15 rfl rfl flX6_328 iwX6 tyX6_ok nmX6 (by decide) rfl rfl (by decide +kernel) rfl rfl rfl ?_
    refine ev_iload_n dX6_tear_18 rfl ?_
    refine ev_iret dX6_tear_19 rfl rfl ?_
    exact fin 1 (by omega)
theorem c_X6_tempers {b : ev_B} {σ : ev_M} (H : okP (wr (σ 47))) : CF b mX6_tempers [vR 46] σ (some (vI (sm (prj σ 4) (σ 47 0).toNat))) σ := by
  refine ev_enter okX6_tempers.1 (Nat.le_of_ble_eq_true rfl) ?_
  have h0 := okr0 H
  obtain ⟨ns, hns, hns2⟩ := nn_ex h0.2.2.1.1
  rw [hns2]
  have loop : ∀ (m k : Nat), k + m = ns → Ev b mX6_tempers 4 [(0, vR 46), (1, vI (sm (prj σ 4) k)), (2, vI k)] [] σ (fun r τ => r = some (vI (sm (prj σ 4) ns)) ∧ τ = σ) := by
    intro m
    induction m with
    | zero =>
      intro k h
      refine ev_iload_n dX6_tempers_4 rfl ?_
      refine ev_aload_n dX6_tempers_5 rfl ?_
      refine ev_getr 0 dX6_tempers_6 rfl rfl flX6_7 iwX6 (by decide) rfl ?_
      refine ev_iconst dX6_tempers_9 ?_
      refine ev_iald dX6_tempers_10 rfl (by omega) ?_
      refine ev_icmp_ge (tgt := 29) dX6_tempers_11 (by decide) (by omega) (by omega) (fun c11 => ?_) (fun c11 => ?_)
      · refine ev_iload_n dX6_tempers_29 rfl ?_
        refine ev_iret dX6_tempers_30 rfl rfl ?_
        have e : k = ns := by omega
        subst e
        exact ⟨rfl, rfl⟩
      · exact absurd c11 (by omega)
    | succ m ih =>
      intro k h
      refine ev_iload_n dX6_tempers_4 rfl ?_
      refine ev_aload_n dX6_tempers_5 rfl ?_
      refine ev_getr 0 dX6_tempers_6 rfl rfl flX6_7 iwX6 (by decide) rfl ?_
      refine ev_iconst dX6_tempers_9 ?_
      refine ev_iald dX6_tempers_10 rfl (by omega) ?_
      refine ev_icmp_ge (tgt := 29) dX6_tempers_11 (by decide) (by omega) (by omega) (fun c11 => ?_) (fun c11 => ?_)
      · exact absurd c11 (by omega)
      · refine ev_iload_n dX6_tempers_14 rfl ?_
        refine ev_aload_n dX6_tempers_15 rfl ?_
        refine ev_iload_n dX6_tempers_16 rfl ?_
        refine ev_iconst dX6_tempers_17 ?_
        refine ev_V1 (c_X6_its (by omega)) okX6_its dX6_tempers_18 mlX6_73 rfl rfl ⟨by decide, by decide⟩ rfl (Nat.le_of_ble_eq_true rfl) ?_
        refine ev_iadd dX6_tempers_21 ?_
        refine ev_istore_n dX6_tempers_22 (by decide) rfl ?_
        refine ev_iinc dX6_tempers_23 rfl (by decide) rfl ?_
        refine ev_goto (tgt := 4) dX6_tempers_26 (by decide) ?_
        exact ih (k + 1) (by omega)
  refine ev_iconst dX6_tempers_0 ?_
  refine ev_istore_n dX6_tempers_1 (by decide) rfl ?_
  refine ev_iconst dX6_tempers_2 ?_
  refine ev_istore_n dX6_tempers_3 (by decide) rfl ?_
  exact loop ns 0 (by omega)
theorem c_X6_count {b : ev_B} {σ : ev_M} {w : Int} (H : okP (wr (σ 47))) (ha : σ 46 6 = 0) (h1 : (-2147483648 ≤ w ∧ w < 2147483648)) : Cl b mX6_count [vR 46, vI w] σ (RP σ (sc_count (prj σ) w)) := by
  refine ev_enter okX6_count.1 (Nat.le_of_ble_eq_true rfl) ?_
  unfold sc_count
  refine ev_iload_n dX6_count_0 rfl ?_
  -- switch 1
  by_cases hw : 0 ≤ w ∧ w ≤ 3
  · rw [if_pos hw]
    rcases (show w = 0 ∨ w = 1 ∨ w = 2 ∨ w = 3 by omega) with rfl | rfl | rfl | rfl
    · refine ev_tableIn (off := 31) (tgt := 32) dX6_count_1 (by omega) (by omega) (by omega) (by decide) (by decide) ?_
      refine ev_aload_n dX6_count_32 rfl ?_
      refine ev_getr 0 dX6_count_33 rfl rfl flX6_7 iwX6 (by decide) rfl ?_
      refine ev_iconst dX6_count_36 ?_
      refine ev_iald dX6_count_37 rfl (by omega) ?_
      refine ev_iret dX6_count_38 rfl rfl ?_
      exact RP_id ha
    · refine ev_tableIn (off := 38) (tgt := 39) dX6_count_1 (by omega) (by omega) (by omega) (by decide) (by decide) ?_
      refine ev_aload_n dX6_count_39 rfl ?_
      refine ev_geti 11 11 dX6_count_40 rfl rfl flX6_211 iwX6 (by decide) rfl rfl ?_
      refine ev_iret dX6_count_43 rfl rfl ?_
      exact RP_id ha
    · refine ev_tableIn (off := 43) (tgt := 44) dX6_count_1 (by omega) (by omega) (by omega) (by decide) (by decide) ?_
      refine ev_aload_n dX6_count_44 rfl ?_
      refine ev_getr 0 dX6_count_45 rfl rfl flX6_7 iwX6 (by decide) rfl ?_
      refine ev_iconst dX6_count_48 ?_
      refine ev_iald dX6_count_49 rfl (by omega) ?_
      refine ev_iret dX6_count_50 rfl rfl ?_
      exact RP_id ha
    · refine ev_tableIn (off := 50) (tgt := 51) dX6_count_1 (by omega) (by omega) (by omega) (by decide) (by decide) ?_
      refine ev_aload_n dX6_count_51 rfl ?_
      refine ev_V1 (c_X6_tempers H) okX6_tempers dX6_count_52 mlX6_331 rfl rfl ⟨by decide, by decide⟩ rfl (Nat.le_of_ble_eq_true rfl) ?_
      refine ev_iret dX6_count_55 rfl rfl ?_
      exact RP_id ha
  · rw [if_neg hw]
    refine ev_tableOut (tgt := 56) dX6_count_1 (by omega) (by omega) (by decide) ?_
    refine ev_aload_n dX6_count_56 rfl ?_
    refine ev_ldc (z := -1000000001) dX6_count_57 kcX6_50 (by decide) ?_
    refine ev_V1 (c_X6_finds (by omega)) okX6_finds dX6_count_59 mlX6_101 rfl rfl ⟨by decide, by decide⟩ rfl (Nat.le_of_ble_eq_true rfl) ?_
    refine ev_iret dX6_count_62 rfl rfl ?_
    exact RP_fnd ha
theorem sm_pick {g : Int → Int} {w : Int} : ∀ n : Nat, sm (fun k => if w < 0 ∨ k = w then g k else 0) n = if w < 0 then sm g n else if w < n then g w else 0
  | 0 => by
    simp only [sm]
    by_cases h : w < 0
    · rw [if_pos h]
    · rw [if_neg h, if_neg (by omega)]
  | n + 1 => by
    rw [sm, sm_pick n]
    by_cases h : w < 0
    · rw [if_pos h, if_pos h, if_pos (Or.inl h)]; rfl
    · rw [if_neg h, if_neg h]
      by_cases e : (n : Int) = w
      · rw [if_pos (Or.inr e), if_neg (by omega), if_pos (by omega), e]; omega
      · rw [if_neg (show ¬ (w < 0 ∨ (n : Int) = w) by omega)]
        by_cases q : w < n
        · rw [if_pos q, if_pos (by omega)]; omega
        · rw [if_neg q, if_neg (by omega)]; rfl
theorem c_X6_status {b : ev_B} {σ : ev_M} {w : Int} (ha : σ 46 6 = 0) (h1 : (-2147483648 ≤ w ∧ w < 2147483648)) : Cl b mX6_status [vR 46, vI w] σ (RP σ (sc_status (prj σ) w)) := by
  refine ev_enter okX6_status.1 (Nat.le_of_ble_eq_true rfl) ?_
  unfold sc_status
  have loop : -1 ≤ w ∧ w ≤ 6 → ∀ (m k : Nat), k + m = 7 → Ev b mX6_status 25 [(0, vR 46), (1, vI w), (2, vI (sm (fun k => if w < 0 ∨ k = w then σ 51 k else 0) k)), (3, vI k)] [] σ (RP σ (sm (fun k => if w < 0 ∨ k = w then σ 51 k else 0) 7, prj σ)) := by
    intro hw m
    induction m with
    | zero =>
      intro k h
      refine ev_iload_n dX6_status_25 rfl ?_
      refine ev_bipush dX6_status_26 (by decide) ?_
      refine ev_icmp_ge (tgt := 59) dX6_status_28 (by decide) (by omega) (by omega) (fun c28 => ?_) (fun c28 => ?_)
      · refine ev_iload_n dX6_status_59 rfl ?_
        refine ev_iret dX6_status_60 rfl rfl ?_
        have e : k = 7 := by omega
        subst e
        exact RP_id ha
      · exact absurd c28 (by omega)
    | succ m ih =>
      intro k h
      have nx : ∀ v : Int, v = (if w < 0 ∨ (k : Int) = w then σ 51 k else 0) → Ev b mX6_status 51 [(0, vR 46), (1, vI w), (2, vI (sm (fun k => if w < 0 ∨ k = w then σ 51 k else 0) k)), (3, vI k)] [vI v, vI (sm (fun k => if w < 0 ∨ k = w then σ 51 k else 0) k)] σ (RP σ (sm (fun k => if w < 0 ∨ k = w then σ 51 k else 0) 7, prj σ)) := by
        intro v hv
        refine ev_iadd dX6_status_51 ?_
        refine ev_istore_n dX6_status_52 (by decide) rfl ?_
        refine ev_iinc dX6_status_53 rfl (by decide) rfl ?_
        refine ev_goto (tgt := 25) dX6_status_56 (by decide) ?_
        have e : sm (fun k => if w < 0 ∨ k = w then σ 51 k else 0) k + v = sm (fun k => if w < 0 ∨ k = w then σ 51 k else 0) (k + 1) := by rw [sm, hv]
        rw [e]
        exact ih (k + 1) (by omega)
      refine ev_iload_n dX6_status_25 rfl ?_
      refine ev_bipush dX6_status_26 (by decide) ?_
      refine ev_icmp_ge (tgt := 59) dX6_status_28 (by decide) (by omega) (by omega) (fun c28 => ?_) (fun c28 => ?_)
      · exact absurd c28 (by omega)
      · refine ev_iload_n dX6_status_31 rfl ?_
        refine ev_iload_n dX6_status_32 rfl ?_
        refine ev_if_lt (tgt := 41) dX6_status_33 (by decide) (by omega) (fun c33 => ?_) (fun c33 => ?_)
        · refine ev_aload_n dX6_status_41 rfl ?_
          refine ev_getr 4 dX6_status_42 rfl rfl flX6_22 iwX6 (by decide) rfl ?_
          refine ev_iload_n dX6_status_45 rfl ?_
          refine ev_iald dX6_status_46 rfl (by omega) ?_
          refine ev_goto (tgt := 51) dX6_status_47 (by decide) ?_
          exact nx _ (by rw [if_pos (Or.inl c33)])
        · refine ev_iload_n dX6_status_36 rfl ?_
          refine ev_iload_n dX6_status_37 rfl ?_
          refine ev_icmp_ne (tgt := 50) dX6_status_38 (by decide) (by omega) (by omega) (fun c38 => ?_) (fun c38 => ?_)
          · refine ev_iconst dX6_status_50 ?_
            exact nx _ (by rw [if_neg (by omega)])
          · refine ev_aload_n dX6_status_41 rfl ?_
            refine ev_getr 4 dX6_status_42 rfl rfl flX6_22 iwX6 (by decide) rfl ?_
            refine ev_iload_n dX6_status_45 rfl ?_
            refine ev_iald dX6_status_46 rfl (by omega) ?_
            refine ev_goto (tgt := 51) dX6_status_47 (by decide) ?_
            exact nx _ (by rw [if_pos (Or.inr c38)])
  refine ev_iload_n dX6_status_0 rfl ?_
  refine ev_i2l dX6_status_1 (by omega) ?_
  refine ev_ldc2 (z := -1) dX6_status_2 klX6_334 (by decide) ?_
  refine ev_ldc2 (z := 6) dX6_status_5 klX6_336 (by decide) ?_
  refine ev_Sbne (tgt := 21) (c_X6_in (by omega) (by omega) (by omega)) okX6_in dX6_status_8 mlX6_53 ⟨by decide, by decide⟩ rfl (Nat.le_of_ble_eq_true rfl) dX6_status_11 (by decide) (fun c8 => ?_) (fun c8 => ?_)
  · refine ev_iconst dX6_status_21 ?_
    refine ev_istore_n dX6_status_22 (by decide) rfl ?_
    refine ev_iconst dX6_status_23 ?_
    refine ev_istore_n dX6_status_24 (by decide) rfl ?_
    have l := loop c8 7 0 (by omega)
    have z := sm_pick (g := σ 51) (w := w) 7
    rw [z] at l
    by_cases e : w = -1
    · rw [if_pos e]
      rw [if_pos (by omega)] at l
      exact l
    · rw [if_neg e, if_pos (by omega)]
      rw [if_neg (by omega), if_pos (show w < ((7 : Nat) : Int) by omega)] at l
      exact l
  · rw [if_neg (by omega), if_neg (by omega)]
    refine ev_aload_n dX6_status_14 rfl ?_
    refine ev_ldc (z := -1000000001) dX6_status_15 kcX6_50 (by decide) ?_
    refine ev_V1 (c_X6_finds (by omega)) okX6_finds dX6_status_17 mlX6_101 rfl rfl ⟨by decide, by decide⟩ rfl (Nat.le_of_ble_eq_true rfl) ?_
    refine ev_iret dX6_status_20 rfl rfl ?_
    exact RP_fnd ha
