/-! the model's calls on sitters and likenesses -/
theorem c_X6_turn {b : ev_B} {σ : ev_M} {s k : Int} (H : okP (wr (σ 47))) (ha : σ 46 6 = 0) (h1 : (-2147483648 ≤ s ∧ s < 2147483648)) (h2 : (-2147483648 ≤ k ∧ k < 2147483648)) : Cl b mX6_turn [vR 46, vI s, vI k] σ (RP σ (sc_turn (prj σ) s k)) := by
  refine ev_enter okX6_turn.1 (Nat.le_of_ble_eq_true rfl) ?_
  unfold sc_turn
  have h0 := okr0 H
  have p13 : prj σ 1 3 = σ 47 0 := rfl
  refine ev_aload_n dX6_turn_0 rfl ?_
  refine ev_iload_n dX6_turn_1 rfl ?_
  refine ev_Vbeq (tgt := 28) (c_X6_isSitter (by omega) (by omega)) okX6_isSitter dX6_turn_2 mlX6_125 rfl rfl ⟨by decide, by decide⟩ rfl (Nat.le_of_ble_eq_true rfl) dX6_turn_5 (by decide) (fun c2 => ?_) (fun c2 => ?_)
  · rw [if_neg (by omega)]
    refine ev_aload_n dX6_turn_28 rfl ?_
    refine ev_ldc (z := -1000000001) dX6_turn_29 kcX6_50 (by decide) ?_
    refine ev_V1 (c_X6_finds (by omega)) okX6_finds dX6_turn_31 mlX6_101 rfl rfl ⟨by decide, by decide⟩ rfl (Nat.le_of_ble_eq_true rfl) ?_
    refine ev_iret dX6_turn_34 rfl rfl ?_
    exact RP_fnd ha
  · refine ev_iload_n dX6_turn_8 rfl ?_
    refine ev_Sbeq (tgt := 28) (c_X6_isKind (by omega)) okX6_isKind dX6_turn_9 mlX6_114 ⟨by decide, by decide⟩ rfl (Nat.le_of_ble_eq_true rfl) dX6_turn_12 (by decide) (fun c9 => ?_) (fun c9 => ?_)
    · rw [if_neg (by omega)]
      refine ev_aload_n dX6_turn_28 rfl ?_
      refine ev_ldc (z := -1000000001) dX6_turn_29 kcX6_50 (by decide) ?_
      refine ev_V1 (c_X6_finds (by omega)) okX6_finds dX6_turn_31 mlX6_101 rfl rfl ⟨by decide, by decide⟩ rfl (Nat.le_of_ble_eq_true rfl) ?_
      refine ev_iret dX6_turn_34 rfl rfl ?_
      exact RP_fnd ha
    · rw [if_pos (by omega)]
      refine ev_aload_n dX6_turn_15 rfl ?_
      refine ev_iload_n dX6_turn_16 rfl ?_
      refine ev_iconst dX6_turn_17 ?_
      refine ev_S1 c_X6_spotOf okX6_spotOf dX6_turn_18 mlX6_59 ⟨by decide, by decide⟩ rfl (Nat.le_of_ble_eq_true rfl) ?_
      refine ev_iload_n dX6_turn_21 rfl ?_
      refine ev_V1 (c_X6_becomes (by omega)) okX6_becomes dX6_turn_22 mlX6_98 rfl rfl ⟨by decide, by decide⟩ rfl (Nat.le_of_ble_eq_true rfl) ?_
      refine ev_goto (tgt := 34) dX6_turn_25 (by decide) ?_
      refine ev_iret dX6_turn_34 rfl rfl ?_
      exact RP_up ha (by omega) (wr_up2 H (by omega))
theorem c_X6_isUnder {b : ev_B} {σ : ev_M} {kind abv : Int} (hk : 0 ≤ kind ∧ kind ≤ 5) (ha : 0 ≤ abv ∧ abv ≤ 5) : CF b mX6_isUnder [vI kind, vI abv] σ (some (vI (if abv = 0 ∨ kind = abv ∨ (3 < kind ∧ kind - 2 = abv) then 1 else 0))) σ := by
  refine ev_enter okX6_isUnder.1 (Nat.le_of_ble_eq_true rfl) ?_
  refine ev_iload_n dX6_isUnder_0 rfl ?_
  refine ev_if_eq (tgt := 21) dX6_isUnder_1 (by decide) (by omega) (fun c1 => ?_) (fun c1 => ?_)
  · refine ev_iconst dX6_isUnder_21 ?_
    refine ev_goto (tgt := 26) dX6_isUnder_22 (by decide) ?_
    refine ev_iret dX6_isUnder_26 rfl (by first | rfl | exact ev_nb) ?_
    exact ⟨by first | rw [if_pos (by omega)] | rw [if_neg (by omega)], rfl⟩
  · refine ev_iload_n dX6_isUnder_4 rfl ?_
    refine ev_iload_n dX6_isUnder_5 rfl ?_
    refine ev_icmp_eq (tgt := 21) dX6_isUnder_6 (by decide) (by omega) (by omega) (fun c6 => ?_) (fun c6 => ?_)
    · refine ev_iconst dX6_isUnder_21 ?_
      refine ev_goto (tgt := 26) dX6_isUnder_22 (by decide) ?_
      refine ev_iret dX6_isUnder_26 rfl (by first | rfl | exact ev_nb) ?_
      exact ⟨by first | rw [if_pos (by omega)] | rw [if_neg (by omega)], rfl⟩
    · refine ev_iload_n dX6_isUnder_9 rfl ?_
      refine ev_iconst dX6_isUnder_10 ?_
      refine ev_icmp_le (tgt := 25) dX6_isUnder_11 (by decide) (by omega) (by omega) (fun c11 => ?_) (fun c11 => ?_)
      · refine ev_iconst dX6_isUnder_25 ?_
        refine ev_iret dX6_isUnder_26 rfl (by first | rfl | exact ev_nb) ?_
        exact ⟨by first | rw [if_pos (by omega)] | rw [if_neg (by omega)], rfl⟩
      · refine ev_iload_n dX6_isUnder_14 rfl ?_
        refine ev_iconst dX6_isUnder_15 ?_
        refine ev_isub dX6_isUnder_16 ?_
        refine ev_iload_n dX6_isUnder_17 rfl ?_
        refine ev_icmp_ne (tgt := 25) dX6_isUnder_18 (by decide) (by omega) (by omega) (fun c18 => ?_) (fun c18 => ?_)
        · refine ev_iconst dX6_isUnder_25 ?_
          refine ev_iret dX6_isUnder_26 rfl (by first | rfl | exact ev_nb) ?_
          exact ⟨by first | rw [if_pos (by omega)] | rw [if_neg (by omega)], rfl⟩
        · refine ev_iconst dX6_isUnder_21 ?_
          refine ev_goto (tgt := 26) dX6_isUnder_22 (by decide) ?_
          refine ev_iret dX6_isUnder_26 rfl (by first | rfl | exact ev_nb) ?_
          exact ⟨by first | rw [if_pos (by omega)] | rw [if_neg (by omega)], rfl⟩
theorem c_X6_as {b : ev_B} {σ : ev_M} {s k : Int} (H : okP (wr (σ 47))) (ha : σ 46 6 = 0) (h1 : (-2147483648 ≤ s ∧ s < 2147483648)) (h2 : (-2147483648 ≤ k ∧ k < 2147483648)) : Cl b mX6_as [vR 46, vI s, vI k] σ (RP σ (sc_as (prj σ) s k)) := by
  refine ev_enter okX6_as.1 (Nat.le_of_ble_eq_true rfl) ?_
  unfold sc_as
  have h0 := okr0 H
  have p13 : prj σ 1 3 = σ 47 0 := rfl
  have p3 : prj σ 3 s = σ 47 (52 + 4 * s + 0) := rfl
  refine ev_aload_n dX6_as_0 rfl ?_
  refine ev_iload_n dX6_as_1 rfl ?_
  refine ev_Vbeq (tgt := 15) (c_X6_isSitter (by omega) (by omega)) okX6_isSitter dX6_as_2 mlX6_125 rfl rfl ⟨by decide, by decide⟩ rfl (Nat.le_of_ble_eq_true rfl) dX6_as_5 (by decide) (fun c2 => ?_) (fun c2 => ?_)
  · rw [if_neg (by omega)]
    refine ev_aload_n dX6_as_15 rfl ?_
    refine ev_ldc (z := -1000000001) dX6_as_16 kcX6_50 (by decide) ?_
    refine ev_V1 (c_X6_finds (by omega)) okX6_finds dX6_as_18 mlX6_101 rfl rfl ⟨by decide, by decide⟩ rfl (Nat.le_of_ble_eq_true rfl) ?_
    refine ev_iret dX6_as_21 rfl rfl ?_
    exact RP_fnd ha
  · refine ev_iload_n dX6_as_8 rfl ?_
    refine ev_Sbne (tgt := 22) (c_X6_isKind (by omega)) okX6_isKind dX6_as_9 mlX6_114 ⟨by decide, by decide⟩ rfl (Nat.le_of_ble_eq_true rfl) dX6_as_12 (by decide) (fun c9 => ?_) (fun c9 => ?_)
    · have q := okrs H (k := s) (by omega)
      rw [if_pos (by omega)]
      refine ev_aload_n dX6_as_22 rfl ?_
      refine ev_iload_n dX6_as_23 rfl ?_
      refine ev_iconst dX6_as_24 ?_
      refine ev_V1 (c_X6_its (by omega)) okX6_its dX6_as_25 mlX6_73 rfl rfl ⟨by decide, by decide⟩ rfl (Nat.le_of_ble_eq_true rfl) ?_
      refine ev_iload_n dX6_as_28 rfl ?_
      refine ev_Sbeq (tgt := 44) (c_X6_isUnder (by omega) (by omega)) okX6_isUnder dX6_as_29 mlX6_136 ⟨by decide, by decide⟩ rfl (Nat.le_of_ble_eq_true rfl) dX6_as_32 (by decide) (fun c29 => ?_) (fun c29 => ?_)
      · rw [if_neg (by omega)]
        refine ev_aload_n dX6_as_44 rfl ?_
        refine ev_ldc (z := -1000000003) dX6_as_45 kcX6_139 (by decide) ?_
        refine ev_V1 (c_X6_finds (by omega)) okX6_finds dX6_as_47 mlX6_101 rfl rfl ⟨by decide, by decide⟩ rfl (Nat.le_of_ble_eq_true rfl) ?_
        refine ev_iret dX6_as_50 rfl rfl ?_
        exact RP_fnd ha
      · rw [if_pos (by omega)]
        refine ev_aload_n dX6_as_35 rfl ?_
        refine ev_iload_n dX6_as_36 rfl ?_
        refine ev_iconst dX6_as_37 ?_
        refine ev_V1 (c_X6_its (by omega)) okX6_its dX6_as_38 mlX6_73 rfl rfl ⟨by decide, by decide⟩ rfl (Nat.le_of_ble_eq_true rfl) ?_
        refine ev_goto (tgt := 50) dX6_as_41 (by decide) ?_
        refine ev_iret dX6_as_50 rfl rfl ?_
        exact RP_id ha
    · rw [if_neg (by omega)]
      refine ev_aload_n dX6_as_15 rfl ?_
      refine ev_ldc (z := -1000000001) dX6_as_16 kcX6_50 (by decide) ?_
      refine ev_V1 (c_X6_finds (by omega)) okX6_finds dX6_as_18 mlX6_101 rfl rfl ⟨by decide, by decide⟩ rfl (Nat.le_of_ble_eq_true rfl) ?_
      refine ev_iret dX6_as_21 rfl rfl ?_
      exact RP_fnd ha
theorem c_X6_of {b : ev_B} {σ : ev_M} {s w : Int} (H : okP (wr (σ 47))) (ha : σ 46 6 = 0) (h1 : (-2147483648 ≤ s ∧ s < 2147483648)) (h2 : (-2147483648 ≤ w ∧ w < 2147483648)) : Cl b mX6_of [vR 46, vI s, vI w] σ (RP σ (sc_of (prj σ) s w)) := by
  refine ev_enter okX6_of.1 (Nat.le_of_ble_eq_true rfl) ?_
  unfold sc_of
  rw [prj_1]
  have h0 := okr0 H
  have p13 : prj σ 1 3 = σ 47 0 := rfl
  refine ev_aload_n dX6_of_0 rfl ?_
  refine ev_iload_n dX6_of_1 rfl ?_
  refine ev_Vbeq (tgt := 20) (c_X6_isSitter (by omega) (by omega)) okX6_isSitter dX6_of_2 mlX6_125 rfl rfl ⟨by decide, by decide⟩ rfl (Nat.le_of_ble_eq_true rfl) dX6_of_5 (by decide) (fun c2 => ?_) (fun c2 => ?_)
  · rw [if_neg (by omega)]
    refine ev_aload_n dX6_of_20 rfl ?_
    refine ev_ldc (z := -1000000001) dX6_of_21 kcX6_50 (by decide) ?_
    refine ev_V1 (c_X6_finds (by omega)) okX6_finds dX6_of_23 mlX6_101 rfl rfl ⟨by decide, by decide⟩ rfl (Nat.le_of_ble_eq_true rfl) ?_
    refine ev_iret dX6_of_26 rfl rfl ?_
    exact RP_fnd ha
  · refine ev_iload_n dX6_of_8 rfl ?_
    refine ev_i2l dX6_of_9 (by omega) ?_
    refine ev_lconst (z := 0) dX6_of_10 rfl ?_
    refine ev_ldc2 (z := 5) dX6_of_11 klX6_57 (by decide) ?_
    refine ev_Sbne (tgt := 27) (c_X6_in (by omega) (by omega) (by omega)) okX6_in dX6_of_14 mlX6_53 ⟨by decide, by decide⟩ rfl (Nat.le_of_ble_eq_true rfl) dX6_of_17 (by decide) (fun c14 => ?_) (fun c14 => ?_)
    · rw [if_pos (by omega)]
      refine ev_iload_n dX6_of_27 rfl ?_
      refine ev_iconst dX6_of_28 ?_
      refine ev_icmp_ge (tgt := 41) dX6_of_29 (by decide) (by omega) (by omega) (fun c29 => ?_) (fun c29 => ?_)
      · rw [if_neg (by omega), if_neg (by omega), if_neg (by omega), if_neg (by omega)]
        refine ev_iload_n dX6_of_41 rfl ?_
        refine ev_iconst dX6_of_42 ?_
        refine ev_icmp_ne (tgt := 54) dX6_of_43 (by decide) (by omega) (by omega) (fun c43 => ?_) (fun c43 => ?_)
        · rw [if_neg (by omega)]
          refine ev_aload_n dX6_of_54 rfl ?_
          refine ev_iload_n dX6_of_55 rfl ?_
          refine ev_V1 (c_X6_meets H (by omega) (by omega)) okX6_meets dX6_of_56 mlX6_131 rfl rfl ⟨by decide, by decide⟩ rfl (Nat.le_of_ble_eq_true rfl) ?_
          refine ev_iret dX6_of_59 rfl rfl ?_
          rw [ha, prA_0]
          exact RP_id ha
        · rw [if_pos (by omega)]
          refine ev_aload_n dX6_of_46 rfl ?_
          refine ev_iload_n dX6_of_47 rfl ?_
          refine ev_V1 (c_X6_likenessesOf H ha (by omega)) okX6_likenessesOf dX6_of_48 mlX6_128 rfl rfl ⟨by decide, by decide⟩ rfl (Nat.le_of_ble_eq_true rfl) ?_
          refine ev_goto (tgt := 59) dX6_of_51 (by decide) ?_
          refine ev_iret dX6_of_59 rfl rfl ?_
          exact RP_id ha
      · refine ev_aload_n dX6_of_32 rfl ?_
        refine ev_iload_n dX6_of_33 rfl ?_
        refine ev_iload_n dX6_of_34 rfl ?_
        refine ev_V1 (c_X6_its (by omega)) okX6_its dX6_of_35 mlX6_73 rfl rfl ⟨by decide, by decide⟩ rfl (Nat.le_of_ble_eq_true rfl) ?_
        refine ev_goto (tgt := 59) dX6_of_38 (by decide) ?_
        refine ev_iret dX6_of_59 rfl rfl ?_
        rcases (show w = 0 ∨ w = 1 ∨ w = 2 ∨ w = 3 by omega) with rfl | rfl | rfl | rfl
        · exact RP_id ha
        · exact RP_id ha
        · exact RP_id ha
        · exact RP_id ha
    · rw [if_neg (by omega)]
      refine ev_aload_n dX6_of_20 rfl ?_
      refine ev_ldc (z := -1000000001) dX6_of_21 kcX6_50 (by decide) ?_
      refine ev_V1 (c_X6_finds (by omega)) okX6_finds dX6_of_23 mlX6_101 rfl rfl ⟨by decide, by decide⟩ rfl (Nat.le_of_ble_eq_true rfl) ?_
      refine ev_iret dX6_of_26 rfl rfl ?_
      exact RP_fnd ha
theorem c_X6_set {b : ev_B} {σ : ev_M} {s w v : Int} (H : okP (wr (σ 47))) (ha : σ 46 6 = 0) (h1 : (-2147483648 ≤ s ∧ s < 2147483648)) (h2 : (-2147483648 ≤ w ∧ w < 2147483648)) (h3 : (-2147483648 ≤ v ∧ v < 2147483648)) : Cl b mX6_set [vR 46, vI s, vI w, vI v] σ (RP σ (sc_set (prj σ) s w v)) := by
  refine ev_enter okX6_set.1 (Nat.le_of_ble_eq_true rfl) ?_
  unfold sc_set
  have h0 := okr0 H
  have p13 : prj σ 1 3 = σ 47 0 := rfl
  have J : ∀ x : Int, (x = 0 ∨ x = 1) → (x = 1 ↔ (w = 1 ∧ 0 ≤ v ∧ v ≤ 30) ∨ (w = 2 ∧ 0 ≤ v ∧ v ≤ 99)) → Ev b mX6_set 39 [(0, vR 46), (1, vI s), (2, vI w), (3, vI v)] [vI x] σ (RP σ (if (0 ≤ s ∧ s ≤ prj σ 1 3 - 1) ∧ w = 1 ∧ 0 ≤ v ∧ v ≤ 30 then (prj σ 4 s, mup (prj σ) 4 s v) else if (0 ≤ s ∧ s ≤ prj σ 1 3 - 1) ∧ w = 2 ∧ 0 ≤ v ∧ v ≤ 99 then (prj σ 5 s, mup (prj σ) 5 s v) else (-1000000001, fnd (prj σ) 0))) := by
    intro x hx hi
    refine ev_istore dX6_set_39 (by decide) rfl ?_
    refine ev_aload_n dX6_set_41 rfl ?_
    refine ev_iload_n dX6_set_42 rfl ?_
    refine ev_Vbeq (tgt := 67) (c_X6_isSitter (by omega) (by omega)) okX6_isSitter dX6_set_43 mlX6_125 rfl rfl ⟨by decide, by decide⟩ rfl (Nat.le_of_ble_eq_true rfl) dX6_set_46 (by decide) (fun c43 => ?_) (fun c43 => ?_)
    · rw [if_neg (by omega), if_neg (by omega)]
      refine ev_aload_n dX6_set_67 rfl ?_
      refine ev_ldc (z := -1000000001) dX6_set_68 kcX6_50 (by decide) ?_
      refine ev_V1 (c_X6_finds (by omega)) okX6_finds dX6_set_70 mlX6_101 rfl rfl ⟨by decide, by decide⟩ rfl (Nat.le_of_ble_eq_true rfl) ?_
      refine ev_iret dX6_set_73 rfl rfl ?_
      exact RP_fnd ha
    · refine ev_iload dX6_set_49 rfl ?_
      refine ev_if_eq (tgt := 67) dX6_set_51 (by decide) (by omega) (fun c51 => ?_) (fun c51 => ?_)
      · rw [if_neg (by omega), if_neg (by omega)]
        refine ev_aload_n dX6_set_67 rfl ?_
        refine ev_ldc (z := -1000000001) dX6_set_68 kcX6_50 (by decide) ?_
        refine ev_V1 (c_X6_finds (by omega)) okX6_finds dX6_set_70 mlX6_101 rfl rfl ⟨by decide, by decide⟩ rfl (Nat.le_of_ble_eq_true rfl) ?_
        refine ev_iret dX6_set_73 rfl rfl ?_
        exact RP_fnd ha
      · refine ev_aload_n dX6_set_54 rfl ?_
        refine ev_iload_n dX6_set_55 rfl ?_
        refine ev_iload_n dX6_set_56 rfl ?_
        refine ev_S1 c_X6_spotOf okX6_spotOf dX6_set_57 mlX6_59 ⟨by decide, by decide⟩ rfl (Nat.le_of_ble_eq_true rfl) ?_
        refine ev_iload_n dX6_set_60 rfl ?_
        refine ev_V1 (c_X6_becomes (by omega)) okX6_becomes dX6_set_61 mlX6_98 rfl rfl ⟨by decide, by decide⟩ rfl (Nat.le_of_ble_eq_true rfl) ?_
        refine ev_goto (tgt := 73) dX6_set_64 (by decide) ?_
        refine ev_iret dX6_set_73 rfl rfl ?_
        rcases (show w = 1 ∨ w = 2 by omega) with rfl | rfl
        · rw [if_pos (by omega)]
          exact RP_up ha (by omega) (wr_up3 H (by omega))
        · rw [if_neg (by omega), if_pos (by omega)]
          exact RP_up ha (by omega) (wr_up4 H (by omega))
  refine ev_iload_n dX6_set_0 rfl ?_
  refine ev_iconst dX6_set_1 ?_
  refine ev_icmp_ne (tgt := 17) dX6_set_2 (by decide) (by omega) (by omega) (fun c2 => ?_) (fun c2 => ?_)
  · refine ev_iload_n dX6_set_17 rfl ?_
    refine ev_iconst dX6_set_18 ?_
    refine ev_icmp_ne (tgt := 38) dX6_set_19 (by decide) (by omega) (by omega) (fun c19 => ?_) (fun c19 => ?_)
    · refine ev_iconst dX6_set_38 ?_
      exact J 0 (Or.inl rfl) (by omega)
    · refine ev_iload_n dX6_set_22 rfl ?_
      refine ev_i2l dX6_set_23 (by omega) ?_
      refine ev_lconst (z := 0) dX6_set_24 rfl ?_
      refine ev_ldc2 (z := 99) dX6_set_25 klX6_96 (by decide) ?_
      refine ev_Sbeq (tgt := 38) (c_X6_in (by omega) (by omega) (by omega)) okX6_in dX6_set_28 mlX6_53 ⟨by decide, by decide⟩ rfl (Nat.le_of_ble_eq_true rfl) dX6_set_31 (by decide) (fun c28 => ?_) (fun c28 => ?_)
      · refine ev_iconst dX6_set_38 ?_
        exact J 0 (Or.inl rfl) (by omega)
      · refine ev_iconst dX6_set_34 ?_
        refine ev_goto (tgt := 39) dX6_set_35 (by decide) ?_
        exact J 1 (Or.inr rfl) (by omega)
  · refine ev_iload_n dX6_set_5 rfl ?_
    refine ev_i2l dX6_set_6 (by omega) ?_
    refine ev_lconst (z := 0) dX6_set_7 rfl ?_
    refine ev_ldc2 (z := 30) dX6_set_8 klX6_134 (by decide) ?_
    refine ev_S1 (c_X6_in (by omega) (by omega) (by omega)) okX6_in dX6_set_11 mlX6_53 ⟨by decide, by decide⟩ rfl (Nat.le_of_ble_eq_true rfl) ?_
    refine ev_goto (tgt := 39) dX6_set_14 (by decide) ?_
    refine J _ ?_ ?_
    · split
      · exact Or.inr rfl
      · exact Or.inl rfl
    · split <;> omega
theorem c_X6_place {b : ev_B} {σ : ev_M} {l w v : Int} (H : okP (wr (σ 47))) (ha : σ 46 6 = 0) (h1 : (-2147483648 ≤ l ∧ l < 2147483648)) (h2 : (-2147483648 ≤ w ∧ w < 2147483648)) (h3 : (-2147483648 ≤ v ∧ v < 2147483648)) : Cl b mX6_place [vR 46, vI l, vI w, vI v] σ (RP σ (sc_place (prj σ) l w v)) := by
  refine ev_enter okX6_place.1 (Nat.le_of_ble_eq_true rfl) ?_
  unfold sc_place
  have h0 := okr0 H
  have p13 : prj σ 1 3 = σ 47 0 := rfl
  have p18 : prj σ 1 8 = σ 47 1 := rfl
  have J : ∀ x : Int, (x = 0 ∨ x = 1) → (x = 1 ↔ (w = 0 ∧ 0 ≤ v ∧ v ≤ 47) ∨ (w = 1 ∧ 0 ≤ v ∧ v ≤ σ 47 0 - 1) ∨ (w = 2 ∧ 0 ≤ v ∧ v ≤ 9999)) → Ev b mX6_place 46 [(0, vR 46), (1, vI l), (2, vI w), (3, vI v)] [vI x] σ (RP σ (if (0 ≤ l ∧ l ≤ prj σ 1 8 - 1) ∧ w = 0 ∧ 0 ≤ v ∧ v ≤ 47 then (prj σ 7 l, mup (prj σ) 7 l v) else if (0 ≤ l ∧ l ≤ prj σ 1 8 - 1) ∧ w = 1 ∧ 0 ≤ v ∧ v ≤ prj σ 1 3 - 1 then (prj σ 8 l, mup (prj σ) 8 l v) else if (0 ≤ l ∧ l ≤ prj σ 1 8 - 1) ∧ w = 2 ∧ 0 ≤ v ∧ v ≤ 9999 then (prj σ 9 l, mup (prj σ) 9 l v) else (-1000000001, fnd (prj σ) 0))) := by
    intro x hx hi
    refine ev_istore dX6_place_46 (by decide) rfl ?_
    refine ev_aload_n dX6_place_48 rfl ?_
    refine ev_iload_n dX6_place_49 rfl ?_
    refine ev_Vbeq (tgt := 74) (c_X6_isLikeness (by omega) (by omega)) okX6_isLikeness dX6_place_50 mlX6_143 rfl rfl ⟨by decide, by decide⟩ rfl (Nat.le_of_ble_eq_true rfl) dX6_place_53 (by decide) (fun c50 => ?_) (fun c50 => ?_)
    · rw [if_neg (by omega), if_neg (by omega), if_neg (by omega)]
      refine ev_aload_n dX6_place_74 rfl ?_
      refine ev_ldc (z := -1000000001) dX6_place_75 kcX6_50 (by decide) ?_
      refine ev_V1 (c_X6_finds (by omega)) okX6_finds dX6_place_77 mlX6_101 rfl rfl ⟨by decide, by decide⟩ rfl (Nat.le_of_ble_eq_true rfl) ?_
      refine ev_iret dX6_place_80 rfl rfl ?_
      exact RP_fnd ha
    · refine ev_iload dX6_place_56 rfl ?_
      refine ev_if_eq (tgt := 74) dX6_place_58 (by decide) (by omega) (fun c58 => ?_) (fun c58 => ?_)
      · rw [if_neg (by omega), if_neg (by omega), if_neg (by omega)]
        refine ev_aload_n dX6_place_74 rfl ?_
        refine ev_ldc (z := -1000000001) dX6_place_75 kcX6_50 (by decide) ?_
        refine ev_V1 (c_X6_finds (by omega)) okX6_finds dX6_place_77 mlX6_101 rfl rfl ⟨by decide, by decide⟩ rfl (Nat.le_of_ble_eq_true rfl) ?_
        refine ev_iret dX6_place_80 rfl rfl ?_
        exact RP_fnd ha
      · refine ev_aload_n dX6_place_61 rfl ?_
        refine ev_iload_n dX6_place_62 rfl ?_
        refine ev_iload_n dX6_place_63 rfl ?_
        refine ev_S1 c_X6_placeOf okX6_placeOf dX6_place_64 mlX6_63 ⟨by decide, by decide⟩ rfl (Nat.le_of_ble_eq_true rfl) ?_
        refine ev_iload_n dX6_place_67 rfl ?_
        refine ev_V1 (c_X6_becomes (by omega)) okX6_becomes dX6_place_68 mlX6_98 rfl rfl ⟨by decide, by decide⟩ rfl (Nat.le_of_ble_eq_true rfl) ?_
        refine ev_goto (tgt := 80) dX6_place_71 (by decide) ?_
        refine ev_iret dX6_place_80 rfl rfl ?_
        rcases (show w = 0 ∨ w = 1 ∨ w = 2 by omega) with rfl | rfl | rfl
        · rw [if_pos (by omega)]
          exact RP_up ha (by omega) (wr_up6 H (by omega))
        · rw [if_neg (by omega), if_pos (by omega)]
          exact RP_up ha (by omega) (wr_up7 H (by omega))
        · rw [if_neg (by omega), if_neg (by omega), if_pos (by omega)]
          exact RP_up ha (by omega) (wr_up8 H (by omega))
  refine ev_iload_n dX6_place_0 rfl ?_
  refine ev_if_ne (tgt := 11) dX6_place_1 (by decide) (by omega) (fun c1 => ?_) (fun c1 => ?_)
  · refine ev_iload_n dX6_place_11 rfl ?_
    refine ev_iconst dX6_place_12 ?_
    refine ev_icmp_ne (tgt := 24) dX6_place_13 (by decide) (by omega) (by omega) (fun c13 => ?_) (fun c13 => ?_)
    · refine ev_iload_n dX6_place_24 rfl ?_
      refine ev_iconst dX6_place_25 ?_
      refine ev_icmp_ne (tgt := 45) dX6_place_26 (by decide) (by omega) (by omega) (fun c26 => ?_) (fun c26 => ?_)
      · refine ev_iconst dX6_place_45 ?_
        exact J 0 (Or.inl rfl) (by omega)
      · refine ev_iload_n dX6_place_29 rfl ?_
        refine ev_i2l dX6_place_30 (by omega) ?_
        refine ev_lconst (z := 0) dX6_place_31 rfl ?_
        refine ev_ldc2 (z := 9999) dX6_place_32 klX6_148 (by decide) ?_
        refine ev_Sbeq (tgt := 45) (c_X6_in (by omega) (by omega) (by omega)) okX6_in dX6_place_35 mlX6_53 ⟨by decide, by decide⟩ rfl (Nat.le_of_ble_eq_true rfl) dX6_place_38 (by decide) (fun c35 => ?_) (fun c35 => ?_)
        · refine ev_iconst dX6_place_45 ?_
          exact J 0 (Or.inl rfl) (by omega)
        · refine ev_iconst dX6_place_41 ?_
          refine ev_goto (tgt := 46) dX6_place_42 (by decide) ?_
          exact J 1 (Or.inr rfl) (by omega)
    · refine ev_aload_n dX6_place_16 rfl ?_
      refine ev_iload_n dX6_place_17 rfl ?_
      refine ev_V1 (c_X6_isSitter (by omega) (by omega)) okX6_isSitter dX6_place_18 mlX6_125 rfl rfl ⟨by decide, by decide⟩ rfl (Nat.le_of_ble_eq_true rfl) ?_
      refine ev_goto (tgt := 46) dX6_place_21 (by decide) ?_
      refine J _ ?_ ?_
      · split
        · exact Or.inr rfl
        · exact Or.inl rfl
      · split <;> omega
  · refine ev_iload_n dX6_place_4 rfl ?_
    refine ev_S1 (c_X6_isCell (by omega)) okX6_isCell dX6_place_5 mlX6_93 ⟨by decide, by decide⟩ rfl (Nat.le_of_ble_eq_true rfl) ?_
    refine ev_goto (tgt := 46) dX6_place_8 (by decide) ?_
    refine J _ ?_ ?_
    · split
      · exact Or.inr rfl
      · exact Or.inl rfl
    · split <;> omega
theorem c_X6_scares {b : ev_B} {σ : ev_M} {l d : Int} (H : okP (wr (σ 47))) (ha : σ 46 6 = 0) (h1 : (-2147483648 ≤ l ∧ l < 2147483648)) (h2 : (-2147483648 ≤ d ∧ d < 2147483648)) : Cl b mX6_scares [vR 46, vI l, vI d] σ (RP σ (sc_scares (prj σ) l d)) := by
  refine ev_enter okX6_scares.1 (Nat.le_of_ble_eq_true rfl) ?_
  unfold sc_scares
  rw [prj_1]
  have h0 := okr0 H
  have p18 : prj σ 1 8 = σ 47 1 := rfl
  refine ev_aload_n dX6_scares_0 rfl ?_
  refine ev_iload_n dX6_scares_1 rfl ?_
  refine ev_Vbeq (tgt := 33) (c_X6_isLikeness (by omega) (by omega)) okX6_isLikeness dX6_scares_2 mlX6_143 rfl rfl ⟨by decide, by decide⟩ rfl (Nat.le_of_ble_eq_true rfl) dX6_scares_5 (by decide) (fun c2 => ?_) (fun c2 => ?_)
  · rw [if_neg (by omega)]
    refine ev_aload_n dX6_scares_33 rfl ?_
    refine ev_ldc (z := -1000000001) dX6_scares_34 kcX6_50 (by decide) ?_
    refine ev_V1 (c_X6_finds (by omega)) okX6_finds dX6_scares_36 mlX6_101 rfl rfl ⟨by decide, by decide⟩ rfl (Nat.le_of_ble_eq_true rfl) ?_
    refine ev_iret dX6_scares_39 rfl rfl ?_
    exact RP_fnd ha
  · refine ev_iload_n dX6_scares_8 rfl ?_
    refine ev_i2l dX6_scares_9 (by omega) ?_
    refine ev_lconst (z := 0) dX6_scares_10 rfl ?_
    refine ev_ldc2 (z := 12) dX6_scares_11 klX6_150 (by decide) ?_
    refine ev_Sbeq (tgt := 33) (c_X6_in (by omega) (by omega) (by omega)) okX6_in dX6_scares_14 mlX6_53 ⟨by decide, by decide⟩ rfl (Nat.le_of_ble_eq_true rfl) dX6_scares_17 (by decide) (fun c14 => ?_) (fun c14 => ?_)
    · rw [if_neg (by omega)]
      refine ev_aload_n dX6_scares_33 rfl ?_
      refine ev_ldc (z := -1000000001) dX6_scares_34 kcX6_50 (by decide) ?_
      refine ev_V1 (c_X6_finds (by omega)) okX6_finds dX6_scares_36 mlX6_101 rfl rfl ⟨by decide, by decide⟩ rfl (Nat.le_of_ble_eq_true rfl) ?_
      refine ev_iret dX6_scares_39 rfl rfl ?_
      exact RP_fnd ha
    · rw [if_pos (by omega)]
      refine ev_sipush dX6_scares_20 (by decide) ?_
      refine ev_aload_n dX6_scares_23 rfl ?_
      refine ev_iload_n dX6_scares_24 rfl ?_
      refine ev_iload_n dX6_scares_25 rfl ?_
      refine ev_V1 (c_X6_scared H (by omega) (by omega)) okX6_scared dX6_scares_26 mlX6_90 rfl rfl ⟨by decide, by decide⟩ rfl (Nat.le_of_ble_eq_true rfl) ?_
      refine ev_iadd dX6_scares_29 ?_
      refine ev_goto (tgt := 39) dX6_scares_30 (by decide) ?_
      refine ev_iret dX6_scares_39 rfl rfl ?_
      exact RP_id ha
theorem c_X6_told {b : ev_B} {σ : ev_M} {l w : Int} (H : okP (wr (σ 47))) (ha : σ 46 6 = 0) (h1 : (-2147483648 ≤ l ∧ l < 2147483648)) (h2 : (-2147483648 ≤ w ∧ w < 2147483648)) : Cl b mX6_told [vR 46, vI l, vI w] σ (RP σ (sc_told (prj σ) l w)) := by
  refine ev_enter okX6_told.1 (Nat.le_of_ble_eq_true rfl) ?_
  unfold sc_told
  rw [prj_1]
  have h0 := okr0 H
  have p18 : prj σ 1 8 = σ 47 1 := rfl
  refine ev_aload_n dX6_told_0 rfl ?_
  refine ev_iload_n dX6_told_1 rfl ?_
  refine ev_Vbeq (tgt := 20) (c_X6_isLikeness (by omega) (by omega)) okX6_isLikeness dX6_told_2 mlX6_143 rfl rfl ⟨by decide, by decide⟩ rfl (Nat.le_of_ble_eq_true rfl) dX6_told_5 (by decide) (fun c2 => ?_) (fun c2 => ?_)
  · rw [if_neg (by omega)]
    refine ev_aload_n dX6_told_20 rfl ?_
    refine ev_ldc (z := -1000000001) dX6_told_21 kcX6_50 (by decide) ?_
    refine ev_V1 (c_X6_finds (by omega)) okX6_finds dX6_told_23 mlX6_101 rfl rfl ⟨by decide, by decide⟩ rfl (Nat.le_of_ble_eq_true rfl) ?_
    refine ev_iret dX6_told_26 rfl rfl ?_
    exact RP_fnd ha
  · refine ev_iload_n dX6_told_8 rfl ?_
    refine ev_i2l dX6_told_9 (by omega) ?_
    refine ev_lconst (z := 0) dX6_told_10 rfl ?_
    refine ev_ldc2 (z := 4) dX6_told_11 klX6_146 (by decide) ?_
    refine ev_Sbne (tgt := 27) (c_X6_in (by omega) (by omega) (by omega)) okX6_in dX6_told_14 mlX6_53 ⟨by decide, by decide⟩ rfl (Nat.le_of_ble_eq_true rfl) dX6_told_17 (by decide) (fun c14 => ?_) (fun c14 => ?_)
    · rw [if_pos (by omega)]
      refine ev_iload_n dX6_told_27 rfl ?_
      refine ev_iconst dX6_told_28 ?_
      refine ev_icmp_ge (tgt := 41) dX6_told_29 (by decide) (by omega) (by omega) (fun c29 => ?_) (fun c29 => ?_)
      · rw [if_neg (by omega), if_neg (by omega), if_neg (by omega)]
        refine ev_sipush dX6_told_41 (by decide) ?_
        refine ev_iload_n dX6_told_44 rfl ?_
        refine ev_iconst dX6_told_45 ?_
        refine ev_icmp_ne (tgt := 57) dX6_told_46 (by decide) (by omega) (by omega) (fun c46 => ?_) (fun c46 => ?_)
        · rw [if_neg (by omega)]
          refine ev_aload_n dX6_told_57 rfl ?_
          refine ev_iload_n dX6_told_58 rfl ?_
          refine ev_iconst dX6_told_59 ?_
          refine ev_V1 (c_X6_scared H (by omega) (by omega)) okX6_scared dX6_told_60 mlX6_90 rfl rfl ⟨by decide, by decide⟩ rfl (Nat.le_of_ble_eq_true rfl) ?_
          refine ev_iadd dX6_told_63 ?_
          refine ev_iret dX6_told_64 rfl rfl ?_
          exact RP_id ha
        · rw [if_pos (by omega)]
          refine ev_aload_n dX6_told_49 rfl ?_
          refine ev_iload_n dX6_told_50 rfl ?_
          refine ev_V1 (c_X6_counts H (by omega)) okX6_counts dX6_told_51 mlX6_76 rfl rfl ⟨by decide, by decide⟩ rfl (Nat.le_of_ble_eq_true rfl) ?_
          refine ev_goto (tgt := 63) dX6_told_54 (by decide) ?_
          refine ev_iadd dX6_told_63 ?_
          refine ev_iret dX6_told_64 rfl rfl ?_
          exact RP_id ha
      · refine ev_aload_n dX6_told_32 rfl ?_
        refine ev_iload_n dX6_told_33 rfl ?_
        refine ev_iload_n dX6_told_34 rfl ?_
        refine ev_V1 (c_X6_likes (by omega)) okX6_likes dX6_told_35 mlX6_70 rfl rfl ⟨by decide, by decide⟩ rfl (Nat.le_of_ble_eq_true rfl) ?_
        refine ev_goto (tgt := 64) dX6_told_38 (by decide) ?_
        refine ev_iret dX6_told_64 rfl rfl ?_
        rcases (show w = 0 ∨ w = 1 ∨ w = 2 by omega) with rfl | rfl | rfl
        · exact RP_id ha
        · exact RP_id ha
        · exact RP_id ha
    · rw [if_neg (by omega)]
      refine ev_aload_n dX6_told_20 rfl ?_
      refine ev_ldc (z := -1000000001) dX6_told_21 kcX6_50 (by decide) ?_
      refine ev_V1 (c_X6_finds (by omega)) okX6_finds dX6_told_23 mlX6_101 rfl rfl ⟨by decide, by decide⟩ rfl (Nat.le_of_ble_eq_true rfl) ?_
      refine ev_iret dX6_told_26 rfl rfl ?_
      exact RP_fnd ha
