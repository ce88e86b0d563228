/-! the class's leaves -/
theorem c_X5_isWithin {b : ev_B} {σ : ev_M} {v lo hi : Int} (h1 : (-2147483648 ≤ v ∧ v < 2147483648)) (h2 : (-2147483648 ≤ lo ∧ lo < 2147483648)) (h3 : (-2147483648 ≤ hi ∧ hi < 2147483648)) : CF b mX5_isWithin [vI v, vI lo, vI hi] σ (some (vI (if lo ≤ v ∧ v ≤ hi then 1 else 0))) σ := by
  refine ev_enter okX5_isWithin.1 (Nat.le_of_ble_eq_true rfl) ?_
  refine ev_iload_n dX5_isWithin_0 rfl ?_
  refine ev_iload_n dX5_isWithin_1 rfl ?_
  refine ev_icmp_lt (tgt := 14) dX5_isWithin_2 (by decide) (by omega) (by omega) (fun c2 => ?_) (fun c2 => ?_)
  · refine ev_iconst dX5_isWithin_14 ?_
    refine ev_iret dX5_isWithin_15 rfl (by first | rfl | exact ev_nb) ?_
    exact ⟨by first | rw [if_pos (by omega)] | rw [if_neg (by omega)], rfl⟩
  · refine ev_iload_n dX5_isWithin_5 rfl ?_
    refine ev_iload_n dX5_isWithin_6 rfl ?_
    refine ev_icmp_gt (tgt := 14) dX5_isWithin_7 (by decide) (by omega) (by omega) (fun c7 => ?_) (fun c7 => ?_)
    · refine ev_iconst dX5_isWithin_14 ?_
      refine ev_iret dX5_isWithin_15 rfl (by first | rfl | exact ev_nb) ?_
      exact ⟨by first | rw [if_pos (by omega)] | rw [if_neg (by omega)], rfl⟩
    · refine ev_iconst dX5_isWithin_10 ?_
      refine ev_goto (tgt := 15) dX5_isWithin_11 (by decide) ?_
      refine ev_iret dX5_isWithin_15 rfl (by first | rfl | exact ev_nb) ?_
      exact ⟨by first | rw [if_pos (by omega)] | rw [if_neg (by omega)], rfl⟩
theorem c_X5_isCell {b : ev_B} {σ : ev_M} {v : Int} (h1 : (-2147483648 ≤ v ∧ v < 2147483648)) : CF b mX5_isCell [vI v] σ (some (vI (if 0 ≤ v ∧ v ≤ 47 then 1 else 0))) σ := by
  refine ev_enter okX5_isCell.1 (Nat.le_of_ble_eq_true rfl) ?_
  refine ev_iload_n dX5_isCell_0 rfl ?_
  refine ev_iconst dX5_isCell_1 ?_
  refine ev_bipush dX5_isCell_2 (by decide) ?_
  refine ev_S1 (c_X5_isWithin (by omega) (by omega) (by omega)) okX5_isWithin dX5_isCell_4 mlX5_51 ⟨by decide, by decide⟩ rfl (Nat.le_of_ble_eq_true rfl) ?_
  refine ev_iret dX5_isCell_7 rfl (by first | rfl | exact ev_nb) ?_
  exact ⟨rfl, rfl⟩
theorem c_X5_isKind {b : ev_B} {σ : ev_M} {v : Int} (h1 : (-2147483648 ≤ v ∧ v < 2147483648)) : CF b mX5_isKind [vI v] σ (some (vI (if 0 ≤ v ∧ v ≤ 5 then 1 else 0))) σ := by
  refine ev_enter okX5_isKind.1 (Nat.le_of_ble_eq_true rfl) ?_
  refine ev_iload_n dX5_isKind_0 rfl ?_
  refine ev_iconst dX5_isKind_1 ?_
  refine ev_iconst dX5_isKind_2 ?_
  refine ev_S1 (c_X5_isWithin (by omega) (by omega) (by omega)) okX5_isWithin dX5_isKind_3 mlX5_51 ⟨by decide, by decide⟩ rfl (Nat.le_of_ble_eq_true rfl) ?_
  refine ev_iret dX5_isKind_6 rfl (by first | rfl | exact ev_nb) ?_
  exact ⟨rfl, rfl⟩
theorem c_X5_isSheet {b : ev_B} {σ : ev_M} {v : Int} (h1 : (-2147483648 ≤ v ∧ v < 2147483648)) : CF b mX5_isSheet [vI v] σ (some (vI (if 0 ≤ v ∧ v ≤ 3 then 1 else 0))) σ := by
  refine ev_enter okX5_isSheet.1 (Nat.le_of_ble_eq_true rfl) ?_
  refine ev_iload_n dX5_isSheet_0 rfl ?_
  refine ev_iconst dX5_isSheet_1 ?_
  refine ev_iconst dX5_isSheet_2 ?_
  refine ev_S1 (c_X5_isWithin (by omega) (by omega) (by omega)) okX5_isWithin dX5_isSheet_3 mlX5_51 ⟨by decide, by decide⟩ rfl (Nat.le_of_ble_eq_true rfl) ?_
  refine ev_iret dX5_isSheet_6 rfl (by first | rfl | exact ev_nb) ?_
  exact ⟨rfl, rfl⟩
theorem c_X5_isSitter {b : ev_B} {σ : ev_M} {v : Int} (h1 : (-2147483648 ≤ v ∧ v < 2147483648)) (h2 : 0 ≤ σ 1 3 ∧ σ 1 3 ≤ 6) : CF b mX5_isSitter [vR 0, vI v] σ (some (vI (if 0 ≤ v ∧ v ≤ σ 1 3 - 1 then 1 else 0))) σ := by
  refine ev_enter okX5_isSitter.1 (Nat.le_of_ble_eq_true rfl) ?_
  refine ev_iload_n dX5_isSitter_0 rfl ?_
  refine ev_iconst dX5_isSitter_1 ?_
  refine ev_aload_n dX5_isSitter_2 rfl ?_
  refine ev_getr 0 dX5_isSitter_3 rfl rfl flX5_10 iwX5 (by decide) rfl ?_
  refine ev_geti 3 3 dX5_isSitter_6 rfl rfl flX5_79 iwX2 (by decide) rfl rfl ?_
  refine ev_iconst dX5_isSitter_9 ?_
  refine ev_isub dX5_isSitter_10 ?_
  refine ev_S1 (c_X5_isWithin (by omega) (by omega) (by omega)) okX5_isWithin dX5_isSitter_11 mlX5_51 ⟨by decide, by decide⟩ rfl (Nat.le_of_ble_eq_true rfl) ?_
  refine ev_iret dX5_isSitter_14 rfl (by first | rfl | exact ev_nb) ?_
  exact ⟨rfl, rfl⟩
theorem c_X5_isLikeness {b : ev_B} {σ : ev_M} {v : Int} (h1 : (-2147483648 ≤ v ∧ v < 2147483648)) (h2 : 0 ≤ σ 1 8 ∧ σ 1 8 ≤ 8) : CF b mX5_isLikeness [vR 0, vI v] σ (some (vI (if 0 ≤ v ∧ v ≤ σ 1 8 - 1 then 1 else 0))) σ := by
  refine ev_enter okX5_isLikeness.1 (Nat.le_of_ble_eq_true rfl) ?_
  refine ev_iload_n dX5_isLikeness_0 rfl ?_
  refine ev_iconst dX5_isLikeness_1 ?_
  refine ev_aload_n dX5_isLikeness_2 rfl ?_
  refine ev_getr 0 dX5_isLikeness_3 rfl rfl flX5_10 iwX5 (by decide) rfl ?_
  refine ev_geti 8 8 dX5_isLikeness_6 rfl rfl flX5_121 iwX2 (by decide) rfl rfl ?_
  refine ev_iconst dX5_isLikeness_9 ?_
  refine ev_isub dX5_isLikeness_10 ?_
  refine ev_S1 (c_X5_isWithin (by omega) (by omega) (by omega)) okX5_isWithin dX5_isLikeness_11 mlX5_51 ⟨by decide, by decide⟩ rfl (Nat.le_of_ble_eq_true rfl) ?_
  refine ev_iret dX5_isLikeness_14 rfl (by first | rfl | exact ev_nb) ?_
  exact ⟨rfl, rfl⟩
theorem c_X5_exchange {b : ev_B} {σ : ev_M} {r n : Nat} {i v : Int} (hr : ev_kds[r]? = some (.inr (0, n))) (hi : 0 ≤ i ∧ i < n) : CF b mX5_exchange [vR r, vI i, vI v] σ (some (vI (σ r i))) (mup σ r i v) := by
  refine ev_enter okX5_exchange.1 (Nat.le_of_ble_eq_true rfl) ?_
  refine ev_aload_n dX5_exchange_0 rfl ?_
  refine ev_iload_n dX5_exchange_1 rfl ?_
  refine ev_iald dX5_exchange_2 hr (by omega) ?_
  refine ev_istore_n dX5_exchange_3 (by decide) rfl ?_
  refine ev_aload_n dX5_exchange_4 rfl ?_
  refine ev_iload_n dX5_exchange_5 rfl ?_
  refine ev_iload_n dX5_exchange_6 rfl ?_
  refine ev_iast dX5_exchange_7 hr (by omega) ?_
  refine ev_iload_n dX5_exchange_8 rfl ?_
  refine ev_iret dX5_exchange_9 rfl rfl ?_
  exact ⟨rfl, rfl⟩
theorem c_X5_finding {b : ev_B} {σ : ev_M} {i : Int} (hi : 0 ≤ i ∧ i < 7) : CF b mX5_finding [vR 0, vI i] σ (some (vI (-1000000001 - i))) (mup σ 45 i (σ 45 i + 1)) := by
  refine ev_enter okX5_finding.1 (Nat.le_of_ble_eq_true rfl) ?_
  refine ev_aload_n dX5_finding_0 rfl ?_
  refine ev_getr 6 dX5_finding_1 rfl rfl flX5_42 iwX5 (by decide) rfl ?_
  refine ev_iload_n dX5_finding_4 rfl ?_
  refine ev_dup2 dX5_finding_5 rfl rfl ?_
  refine ev_iald dX5_finding_6 rfl (by omega) ?_
  refine ev_iconst dX5_finding_7 ?_
  refine ev_iadd dX5_finding_8 ?_
  refine ev_iast dX5_finding_9 rfl (by omega) ?_
  refine ev_ldcw (z := -1000000001) dX5_finding_10 kcX5_259 (by decide) ?_
  refine ev_iload_n dX5_finding_13 rfl ?_
  refine ev_isub dX5_finding_14 ?_
  refine ev_iret dX5_finding_15 rfl rfl ?_
  exact ⟨rfl, rfl⟩
theorem c_X5_sumOf {b : ev_B} {σ : ev_M} {r n N : Nat} (hr : ev_kds[r]? = some (.inr (0, n))) (hN : N ≤ n) : CF b mX5_sumOf [vR r, vI N] σ (some (vI (sm (σ r) N))) σ := by
  refine ev_enter okX5_sumOf.1 (Nat.le_of_ble_eq_true rfl) ?_
  have hn := ev_small _ _ _ hr
  have loop : ∀ (m i : Nat), i + m = N → Ev b mX5_sumOf 4 [(0, vR r), (1, vI N), (2, vI (sm (σ r) i)), (3, vI i)] [] σ (fun r' τ' => r' = some (vI (sm (σ r) N)) ∧ τ' = σ) := by
    intro m
    induction m with
    | zero =>
      intro i h
      refine ev_iload_n dX5_sumOf_4 rfl ?_
      refine ev_iload_n dX5_sumOf_5 rfl ?_
      refine ev_icmp_ge (tgt := 21) dX5_sumOf_6 (by decide) (by omega) (by omega) (fun c6 => ?_) (fun c6 => ?_)
      · refine ev_iload_n dX5_sumOf_21 rfl ?_
        refine ev_iret dX5_sumOf_22 rfl rfl ?_
        have e : i = N := by omega
        subst e
        exact ⟨rfl, rfl⟩
      · exact absurd c6 (by omega)
    | succ m ih =>
      intro i h
      refine ev_iload_n dX5_sumOf_4 rfl ?_
      refine ev_iload_n dX5_sumOf_5 rfl ?_
      refine ev_icmp_ge (tgt := 21) dX5_sumOf_6 (by decide) (by omega) (by omega) (fun c6 => ?_) (fun c6 => ?_)
      · exact absurd c6 (by omega)
      · refine ev_iload_n dX5_sumOf_9 rfl ?_
        refine ev_aload_n dX5_sumOf_10 rfl ?_
        refine ev_iload_n dX5_sumOf_11 rfl ?_
        refine ev_iald dX5_sumOf_12 hr (by omega) ?_
        refine ev_iadd dX5_sumOf_13 ?_
        refine ev_istore_n dX5_sumOf_14 (by decide) rfl ?_
        refine ev_iinc dX5_sumOf_15 rfl (by decide) rfl ?_
        refine ev_goto (tgt := 4) dX5_sumOf_18 (by decide) ?_
        exact ih (i + 1) (by omega)
  refine ev_iconst dX5_sumOf_0 ?_
  refine ev_istore_n dX5_sumOf_1 (by decide) rfl ?_
  refine ev_iconst dX5_sumOf_2 ?_
  refine ev_istore_n dX5_sumOf_3 (by decide) rfl ?_
  exact loop N 0 (by omega)
theorem c_X5_distanceOf {b : ev_B} {σ : ev_M} {a c : Int} (ha : 0 ≤ a ∧ a < 48) (hc : 0 ≤ c ∧ c < 48) : CF b mX5_distanceOf [vI a, vI c] σ (some (vI (sp_dist a c))) σ := by
  refine ev_enter okX5_distanceOf.1 (Nat.le_of_ble_eq_true rfl) ?_
  refine ev_iload_n dX5_distanceOf_0 rfl ?_
  refine ev_bipush dX5_distanceOf_1 (by decide) ?_
  refine ev_idiv dX5_distanceOf_3 (by omega) (by omega) ?_
  refine ev_iload_n dX5_distanceOf_4 rfl ?_
  refine ev_bipush dX5_distanceOf_5 (by decide) ?_
  refine ev_idiv dX5_distanceOf_7 (by omega) (by omega) ?_
  refine ev_isub dX5_distanceOf_8 ?_
  refine ev_mabs dX5_distanceOf_9 mlX5_263 ma_abs (by omega) ⟨by decide, Nat.le_of_ble_eq_true rfl⟩ ?_
  refine ev_istore_n dX5_distanceOf_12 (by decide) rfl ?_
  refine ev_iload_n dX5_distanceOf_13 rfl ?_
  refine ev_bipush dX5_distanceOf_14 (by decide) ?_
  refine ev_irem dX5_distanceOf_16 (by omega) (by omega) ?_
  refine ev_iload_n dX5_distanceOf_17 rfl ?_
  refine ev_bipush dX5_distanceOf_18 (by decide) ?_
  refine ev_irem dX5_distanceOf_20 (by omega) (by omega) ?_
  refine ev_isub dX5_distanceOf_21 ?_
  refine ev_mabs dX5_distanceOf_22 mlX5_263 ma_abs (by omega) ⟨by decide, Nat.le_of_ble_eq_true rfl⟩ ?_
  refine ev_istore_n dX5_distanceOf_25 (by decide) rfl ?_
  refine ev_iload_n dX5_distanceOf_26 rfl ?_
  refine ev_iload_n dX5_distanceOf_27 rfl ?_
  refine ev_iadd dX5_distanceOf_28 ?_
  refine ev_iret dX5_distanceOf_29 rfl rfl ?_
  exact ⟨rfl, rfl⟩
