/-! sheets -/
theorem i32b (x : Int32) : -2147483648 ≤ x.toInt ∧ x.toInt < 2147483648 := ⟨Int32.le_toInt x, Int32.toInt_lt x⟩
def cutv (bits v : Int) : Int := if bits = 8 then (Int32.ofInt v).toInt8.toInt32.toInt else if bits = 16 then (Int32.ofInt v).toInt16.toInt32.toInt else v
theorem cutv_bd {bits v : Int} (h : (-9223372036854775808 ≤ v ∧ v < 9223372036854775808)) : (-9223372036854775808 ≤ cutv bits v ∧ cutv bits v < 9223372036854775808) := by
  unfold cutv
  split
  · have := i32b (Int32.ofInt v).toInt8.toInt32; omega
  · split
    · have := i32b (Int32.ofInt v).toInt16.toInt32; omega
    · exact h
theorem isS_rt {s : Int} (h : 0 ≤ s ∧ s ≤ 3) : isS (ev_rt s.toNat) := by
  unfold isS ev_rt
  omega
theorem c_J7_fill_d0a16 {b : ev_B} {σ : ev_M} {r n : Nat} {v : Int} (hr : ev_kds[r]? = some (.inr (1, n))) : CF b mJ7_fill_d0a16 [vR r, vL v] σ none (mfl σ r v n) := by
  refine ev_enter okJ7_fill_d0a16.1 (Nat.le_of_ble_eq_true rfl) ?_
  have hn := ev_small _ _ _ hr
  have loop : ∀ (m i : Nat), i + m = n → Ev b mJ7_fill_d0a16 6 [(0, vR r), (1, vL v), (3, vI i), (4, vI n)] [] (mfl σ r v i) (fun r' τ' => r' = none ∧ τ' = mfl σ r v n) := by
    intro m
    induction m with
    | zero =>
      intro i h
      refine ev_iload_n dJ7_fill_d0a16_6 rfl ?_
      refine ev_iload dJ7_fill_d0a16_7 rfl ?_
      refine ev_icmp_ge (tgt := 22) dJ7_fill_d0a16_9 (by decide) (by omega) (by omega) (fun c9 => ?_) (fun c9 => ?_)
      · refine ev_vret dJ7_fill_d0a16_22 rfl ?_
        have e : i = n := by omega
        subst e
        exact ⟨rfl, rfl⟩
      · exact absurd c9 (by omega)
    | succ m ih =>
      intro i h
      refine ev_iload_n dJ7_fill_d0a16_6 rfl ?_
      refine ev_iload dJ7_fill_d0a16_7 rfl ?_
      refine ev_icmp_ge (tgt := 22) dJ7_fill_d0a16_9 (by decide) (by omega) (by omega) (fun c9 => ?_) (fun c9 => ?_)
      · exact absurd c9 (by omega)
      · refine ev_aload_n dJ7_fill_d0a16_12 rfl ?_
        refine ev_iload_n dJ7_fill_d0a16_13 rfl ?_
        refine ev_lload_n dJ7_fill_d0a16_14 rfl ?_
        refine ev_last dJ7_fill_d0a16_15 hr (by omega) ?_
        refine ev_iinc dJ7_fill_d0a16_16 rfl (by decide) rfl ?_
        refine ev_goto (tgt := 6) dJ7_fill_d0a16_19 (by decide) ?_
        rw [mfl_s]
        exact ih (i + 1) (by omega)
  refine ev_iconst dJ7_fill_d0a16_0 ?_
  refine ev_istore_n dJ7_fill_d0a16_1 (by decide) rfl ?_
  refine ev_aload_n dJ7_fill_d0a16_2 rfl ?_
  refine ev_alen1 dJ7_fill_d0a16_3 hr rfl ?_
  refine ev_istore dJ7_fill_d0a16_4 (by decide) rfl ?_
  have e : mfl σ r v 0 = σ := by
    funext a j
    simp only [mfl]
    rw [if_neg (by omega)]
  have l := loop n 0 (by omega)
  rw [e] at l
  exact l
theorem c_X3_isMissing {b : ev_B} {σ : ev_M} {q : Nat} (hq : isS q) (h : 0 ≤ σ q 1 ∧ σ q 1 ≤ 64) : CF b mX3_isMissing [vR q] σ (some (vI (if σ q 1 = 0 then 1 else 0))) σ := by
  refine ev_enter okX3_isMissing.1 (Nat.le_of_ble_eq_true rfl) ?_
  refine ev_aload_n dX3_isMissing_0 rfl ?_
  refine ev_geti 1 1 dX3_isMissing_1 (sk0 hq) rfl flX3_15 iwX3 (by decide) rfl rfl ?_
  refine ev_if_ne (tgt := 11) dX3_isMissing_4 (by decide) (by omega) (fun c4 => ?_) (fun c4 => ?_)
  · refine ev_iconst dX3_isMissing_11 ?_
    refine ev_iret dX3_isMissing_12 rfl (by first | rfl | exact ev_nb) ?_
    exact ⟨by first | rw [if_pos (by omega)] | rw [if_neg (by omega)], rfl⟩
  · refine ev_iconst dX3_isMissing_7 ?_
    refine ev_goto (tgt := 12) dX3_isMissing_8 (by decide) ?_
    refine ev_iret dX3_isMissing_12 rfl (by first | rfl | exact ev_nb) ?_
    exact ⟨by first | rw [if_pos (by omega)] | rw [if_neg (by omega)], rfl⟩
theorem c_X3_hasRun {b : ev_B} {σ : ev_M} {q : Nat} {f n : Int} (hq : isS q) (h : 0 ≤ σ q 2 ∧ σ q 2 ≤ 40) (hf : (-2147483648 ≤ f ∧ f < 2147483648)) (hn : (-2147483648 ≤ n ∧ n < 2147483648)) : CF b mX3_hasRun [vR q, vI f, vI n] σ (some (vI (if 0 ≤ f ∧ 0 ≤ n ∧ f ≤ σ q 2 ∧ n ≤ σ q 2 - f then 1 else 0))) σ := by
  refine ev_enter okX3_hasRun.1 (Nat.le_of_ble_eq_true rfl) ?_
  refine ev_iload_n dX3_hasRun_0 rfl ?_
  refine ev_if_lt (tgt := 30) dX3_hasRun_1 (by decide) (by omega) (fun c1 => ?_) (fun c1 => ?_)
  · refine ev_iconst dX3_hasRun_30 ?_
    refine ev_iret dX3_hasRun_31 rfl (by first | rfl | exact ev_nb) ?_
    exact ⟨by first | rw [if_pos (by omega)] | rw [if_neg (by omega)], rfl⟩
  · refine ev_iload_n dX3_hasRun_4 rfl ?_
    refine ev_if_lt (tgt := 30) dX3_hasRun_5 (by decide) (by omega) (fun c5 => ?_) (fun c5 => ?_)
    · refine ev_iconst dX3_hasRun_30 ?_
      refine ev_iret dX3_hasRun_31 rfl (by first | rfl | exact ev_nb) ?_
      exact ⟨by first | rw [if_pos (by omega)] | rw [if_neg (by omega)], rfl⟩
    · refine ev_iload_n dX3_hasRun_8 rfl ?_
      refine ev_aload_n dX3_hasRun_9 rfl ?_
      refine ev_geti 2 2 dX3_hasRun_10 (sk0 hq) rfl flX3_19 iwX3 (by decide) rfl rfl ?_
      refine ev_icmp_gt (tgt := 30) dX3_hasRun_13 (by decide) (by omega) (by omega) (fun c13 => ?_) (fun c13 => ?_)
      · refine ev_iconst dX3_hasRun_30 ?_
        refine ev_iret dX3_hasRun_31 rfl (by first | rfl | exact ev_nb) ?_
        exact ⟨by first | rw [if_pos (by omega)] | rw [if_neg (by omega)], rfl⟩
      · refine ev_iload_n dX3_hasRun_16 rfl ?_
        refine ev_aload_n dX3_hasRun_17 rfl ?_
        refine ev_geti 2 2 dX3_hasRun_18 (sk0 hq) rfl flX3_19 iwX3 (by decide) rfl rfl ?_
        refine ev_iload_n dX3_hasRun_21 rfl ?_
        refine ev_isub dX3_hasRun_22 ?_
        refine ev_icmp_gt (tgt := 30) dX3_hasRun_23 (by decide) (by omega) (by omega) (fun c23 => ?_) (fun c23 => ?_)
        · refine ev_iconst dX3_hasRun_30 ?_
          refine ev_iret dX3_hasRun_31 rfl (by first | rfl | exact ev_nb) ?_
          exact ⟨by first | rw [if_pos (by omega)] | rw [if_neg (by omega)], rfl⟩
        · refine ev_iconst dX3_hasRun_26 ?_
          refine ev_goto (tgt := 31) dX3_hasRun_27 (by decide) ?_
          refine ev_iret dX3_hasRun_31 rfl (by first | rfl | exact ev_nb) ?_
          exact ⟨by first | rw [if_pos (by omega)] | rw [if_neg (by omega)], rfl⟩
theorem c_X3_cut {b : ev_B} {σ : ev_M} {q : Nat} {v : Int} (hq : isS q) (h : σ q 1 = 0 ∨ σ q 1 = 8 ∨ σ q 1 = 16 ∨ σ q 1 = 64) : CF b mX3_cut [vR q, vL v] σ (some (vL (cutv (σ q 1) v))) σ := by
  refine ev_enter okX3_cut.1 (Nat.le_of_ble_eq_true rfl) ?_
  have b1 := i32b (Int32.ofInt v).toInt8.toInt32
  have b2 := i32b (Int32.ofInt v).toInt16.toInt32
  refine ev_aload_n dX3_cut_0 rfl ?_
  refine ev_geti 1 1 dX3_cut_1 (sk0 hq) rfl flX3_15 iwX3 (by decide) rfl rfl ?_
  -- switch 4
  generalize σ q 1 = x at h
  rcases h with rfl | rfl | rfl | rfl
  · refine ev_lookup (off := 38) (tgt := 42) dX3_cut_4 (by decide) (by omega) (by decide) (by decide) ?_
    refine ev_lload_n dX3_cut_42 rfl ?_
    refine ev_lret dX3_cut_43 rfl ?_
    exact ⟨rfl, rfl⟩
  · refine ev_lookup (off := 28) (tgt := 32) dX3_cut_4 (by decide) (by omega) (by decide) (by decide) ?_
    refine ev_lload_n dX3_cut_32 rfl ?_
    refine ev_l2i dX3_cut_33 ?_
    refine ev_i2b dX3_cut_34 (Int32.ofInt_toInt _).symm ?_
    refine ev_i2l dX3_cut_35 (by omega) ?_
    refine ev_lret dX3_cut_36 rfl ?_
    exact ⟨rfl, rfl⟩
  · refine ev_lookup (off := 33) (tgt := 37) dX3_cut_4 (by decide) (by omega) (by decide) (by decide) ?_
    refine ev_lload_n dX3_cut_37 rfl ?_
    refine ev_l2i dX3_cut_38 ?_
    refine ev_i2s dX3_cut_39 (Int32.ofInt_toInt _).symm ?_
    refine ev_i2l dX3_cut_40 (by omega) ?_
    refine ev_lret dX3_cut_41 rfl ?_
    exact ⟨rfl, rfl⟩
  · refine ev_lookup (off := 38) (tgt := 42) dX3_cut_4 (by decide) (by omega) (by decide) (by decide) ?_
    refine ev_lload_n dX3_cut_42 rfl ?_
    refine ev_lret dX3_cut_43 rfl ?_
    exact ⟨rfl, rfl⟩
theorem c_X3_put {b : ev_B} {σ : ev_M} {q : Nat} {i v : Int} (hq : isS q) (h : σ q 1 = 0 ∨ σ q 1 = 8 ∨ σ q 1 = 16 ∨ σ q 1 = 64) (hi : 0 ≤ i ∧ i < 40) : CF b mX3_put [vR q, vI i, vL v] σ none (mup σ (q + 1) i (cutv (σ q 1) v)) := by
  refine ev_enter okX3_put.1 (Nat.le_of_ble_eq_true rfl) ?_
  refine ev_aload_n dX3_put_0 rfl ?_
  refine ev_getr 0 dX3_put_1 (sk0 hq) rfl flX3_9 iwX3 (by decide) rfl ?_
  refine ev_iload_n dX3_put_4 rfl ?_
  refine ev_aload_n dX3_put_5 rfl ?_
  refine ev_lload_n dX3_put_6 rfl ?_
  refine ev_V1 (c_X3_cut hq h) okX3_cut dX3_put_7 mlX3_28 (sk0 hq) rfl ⟨by decide, by decide⟩ rfl (Nat.le_of_ble_eq_true rfl) ?_
  refine ev_last dX3_put_10 (sk1 hq) (by omega) ?_
  refine ev_vret dX3_put_11 rfl ?_
  exact ⟨rfl, rfl⟩
def shM (σ : ev_M) (q : Nat) (bits n : Int) : ev_M := mfl (mup (mup σ q 1 bits) q 2 (if bits = 0 then 0 else n)) (q + 1) 0 40
theorem c_X3_begin {b : ev_B} {σ : ev_M} {q : Nat} {bits n : Int} (hq : isS q) (hb : (-2147483648 ≤ bits ∧ bits < 2147483648)) : CF b mX3_begin [vR q, vI bits, vI n] σ none (shM σ q bits n) := by
  refine ev_enter okX3_begin.1 (Nat.le_of_ble_eq_true rfl) ?_
  unfold shM
  refine ev_aload_n dX3_begin_0 rfl ?_
  refine ev_iload_n dX3_begin_1 rfl ?_
  refine ev_put (ty := .int) 1 1 dX3_begin_2 (sk0 hq) rfl flX3_15 iwX3 tyX3_ok nmX3 (by decide) rfl rfl (by decide +kernel) rfl rfl rfl ?_
  refine ev_aload_n dX3_begin_5 rfl ?_
  refine ev_iload_n dX3_begin_6 rfl ?_
  refine ev_if_ne (tgt := 14) dX3_begin_7 (by decide) (by omega) (fun c7 => ?_) (fun c7 => ?_)
  · rw [if_neg c7]
    refine ev_iload_n dX3_begin_14 rfl ?_
    refine ev_put (ty := .int) 2 2 dX3_begin_15 (sk0 hq) rfl flX3_19 iwX3 tyX3_ok nmX3 (by decide) rfl rfl (by decide +kernel) rfl rfl rfl ?_
    refine ev_aload_n dX3_begin_18 rfl ?_
    refine ev_getr 0 dX3_begin_19 (sk0 hq) rfl flX3_9 iwX3 (by decide) rfl ?_
    refine ev_lconst (z := 0) dX3_begin_22 rfl ?_
    refine ev_S0 (c_J7_fill_d0a16 (sk1 hq)) okJ7_fill_d0a16 dX3_begin_23 mlX3_22 ⟨by decide, by decide⟩ rfl (Nat.le_of_ble_eq_true rfl) ?_
    refine ev_vret dX3_begin_26 rfl ?_
    exact ⟨rfl, rfl⟩
  · rw [if_pos c7]
    refine ev_iconst dX3_begin_10 ?_
    refine ev_goto (tgt := 15) dX3_begin_11 (by decide) ?_
    refine ev_put (ty := .int) 2 2 dX3_begin_15 (sk0 hq) rfl flX3_19 iwX3 tyX3_ok nmX3 (by decide) rfl rfl (by decide +kernel) rfl rfl rfl ?_
    refine ev_aload_n dX3_begin_18 rfl ?_
    refine ev_getr 0 dX3_begin_19 (sk0 hq) rfl flX3_9 iwX3 (by decide) rfl ?_
    refine ev_lconst (z := 0) dX3_begin_22 rfl ?_
    refine ev_S0 (c_J7_fill_d0a16 (sk1 hq)) okJ7_fill_d0a16 dX3_begin_23 mlX3_22 ⟨by decide, by decide⟩ rfl (Nat.le_of_ble_eq_true rfl) ?_
    refine ev_vret dX3_begin_26 rfl ?_
    exact ⟨rfl, rfl⟩
/-- what holds of every sheet of the class -/
def okS (σ : ev_M) : Prop := ∀ q : Nat, isS q → (σ q 1 = 0 ∨ σ q 1 = 8 ∨ σ q 1 = 16 ∨ σ q 1 = 64) ∧ (0 ≤ σ q 2 ∧ σ q 2 ≤ 40) ∧ ∀ i : Int, 0 ≤ i ∧ i < 40 → (-9223372036854775808 ≤ σ (q + 1) i ∧ σ (q + 1) i < 9223372036854775808)
def sc_sheet (σ : ev_M) (s bits n : Int) : Int × ev_M := if ¬ ((0 ≤ s ∧ s ≤ 3) ∧ (bits = 0 ∨ bits = 8 ∨ bits = 16 ∨ bits = 64)) then (-1000000001, fnd σ 0) else if n < 0 then (-1000000007, fnd σ 6) else if 40 < n then (-1000000001, fnd σ 0) else (if bits = 0 then 0 else n, shM σ (ev_rt s.toNat) bits n)
theorem c_X5_sheet {b : ev_B} {σ : ev_M} {s bits n : Int} (h1 : (-2147483648 ≤ s ∧ s < 2147483648)) (h2 : (-2147483648 ≤ bits ∧ bits < 2147483648)) (h3 : (-2147483648 ≤ n ∧ n < 2147483648)) : Cl b mX5_sheet [vR 0, vI s, vI bits, vI n] σ (fun r τ => r = some (vI (sc_sheet σ s bits n).1) ∧ sameC (sc_sheet σ s bits n).2 τ) := by
  refine ev_enter okX5_sheet.1 (Nat.le_of_ble_eq_true rfl) ?_
  unfold sc_sheet
  have K : (0 ≤ s ∧ s ≤ 3) → (bits = 0 ∨ bits = 8 ∨ bits = 16 ∨ bits = 64) → Ev b mX5_sheet 35 [(0, vR 0), (1, vI s), (2, vI bits), (3, vI n)] [] σ (fun r τ => r = some (vI (if n < 0 then (-1000000007, fnd σ 6) else if 40 < n then (-1000000001, fnd σ 0) else (if bits = 0 then 0 else n, shM σ (ev_rt s.toNat) bits n)).1) ∧ sameC (if n < 0 then (-1000000007, fnd σ 6) else if 40 < n then (-1000000001, fnd σ 0) else (if bits = 0 then 0 else n, shM σ (ev_rt s.toNat) bits n)).2 τ) := by
    intro hs hbt
    have hq := isS_rt hs
    generalize hqe : ev_rt s.toNat = q at hq ⊢
    refine ev_iload_n dX5_sheet_35 rfl ?_
    refine ev_if_ge (tgt := 46) dX5_sheet_36 (by decide) (by omega) (fun c36 => ?_) (fun c36 => ?_)
    · refine ev_iload_n dX5_sheet_46 rfl ?_
      refine ev_bipush dX5_sheet_47 (by decide) ?_
      refine ev_icmp_le (tgt := 58) dX5_sheet_49 (by decide) (by omega) (by omega) (fun c49 => ?_) (fun c49 => ?_)
      · rw [if_neg (by omega), if_neg (by omega)]
        refine ev_aload_n dX5_sheet_58 rfl ?_
        refine ev_getr 5 dX5_sheet_59 rfl rfl flX5_38 iwX5 (by decide) rfl ?_
        refine ev_iload_n dX5_sheet_62 rfl ?_
        refine ev_aald dX5_sheet_63 rfl (by omega) ?_
        rw [hqe]
        refine ev_iload_n dX5_sheet_64 rfl ?_
        refine ev_iload_n dX5_sheet_65 rfl ?_
        refine ev_V0 (c_X3_begin hq (by omega)) okX3_begin dX5_sheet_66 mlX5_211 (sk0 hq) rfl ⟨by decide, by decide⟩ rfl (Nat.le_of_ble_eq_true rfl) ?_
        refine ev_aload_n dX5_sheet_69 rfl ?_
        refine ev_getr 5 dX5_sheet_70 rfl rfl flX5_38 iwX5 (by decide) rfl ?_
        refine ev_iload_n dX5_sheet_73 rfl ?_
        refine ev_aald dX5_sheet_74 rfl (by omega) ?_
        rw [hqe]
        refine ev_geti 2 2 dX5_sheet_75 (sk0 hq) rfl flX5_215 iwX3 (by decide) rfl rfl ?_
        refine ev_iret dX5_sheet_78 rfl rfl ?_
        refine ⟨?_, sameC_rf⟩
        have e : shM σ q bits n q 2 = if bits = 0 then 0 else n := by
          unfold shM
          rw [mfl_ne (by omega), mr3]
        rw [e]
      · rw [if_neg (by omega), if_pos (by omega)]
        refine ev_aload_n dX5_sheet_52 rfl ?_
        refine ev_iconst dX5_sheet_53 ?_
        refine ev_V1 (c_X5_finding (by omega)) okX5_finding dX5_sheet_54 mlX5_55 rfl rfl ⟨by decide, by decide⟩ rfl (Nat.le_of_ble_eq_true rfl) ?_
        refine ev_iret dX5_sheet_57 rfl rfl ?_
        exact ⟨rfl, sameC_rf⟩
    · rw [if_pos (by omega)]
      refine ev_aload_n dX5_sheet_39 rfl ?_
      refine ev_bipush dX5_sheet_40 (by decide) ?_
      refine ev_V1 (c_X5_finding (by omega)) okX5_finding dX5_sheet_42 mlX5_55 rfl rfl ⟨by decide, by decide⟩ rfl (Nat.le_of_ble_eq_true rfl) ?_
      refine ev_iret dX5_sheet_45 rfl rfl ?_
      exact ⟨rfl, sameC_rf⟩
  refine ev_iload_n dX5_sheet_0 rfl ?_
  refine ev_Sbeq (tgt := 29) (c_X5_isSheet (by omega)) okX5_isSheet dX5_sheet_1 mlX5_208 ⟨by decide, by decide⟩ rfl (Nat.le_of_ble_eq_true rfl) dX5_sheet_4 (by decide) (fun c1 => ?_) (fun c1 => ?_)
  · rw [if_pos (by omega)]
    refine ev_aload_n dX5_sheet_29 rfl ?_
    refine ev_iconst dX5_sheet_30 ?_
    refine ev_V1 (c_X5_finding (by omega)) okX5_finding dX5_sheet_31 mlX5_55 rfl rfl ⟨by decide, by decide⟩ rfl (Nat.le_of_ble_eq_true rfl) ?_
    refine ev_iret dX5_sheet_34 rfl rfl ?_
    exact ⟨rfl, sameC_rf⟩
  · refine ev_iload_n dX5_sheet_7 rfl ?_
    refine ev_if_eq (tgt := 35) dX5_sheet_8 (by decide) (by omega) (fun c8 => ?_) (fun c8 => ?_)
    · rw [if_neg (by omega)]
      exact K (by omega) (by omega)
    · refine ev_iload_n dX5_sheet_11 rfl ?_
      refine ev_bipush dX5_sheet_12 (by decide) ?_
      refine ev_icmp_eq (tgt := 35) dX5_sheet_14 (by decide) (by omega) (by omega) (fun c14 => ?_) (fun c14 => ?_)
      · rw [if_neg (by omega)]
        exact K (by omega) (by omega)
      · refine ev_iload_n dX5_sheet_17 rfl ?_
        refine ev_bipush dX5_sheet_18 (by decide) ?_
        refine ev_icmp_eq (tgt := 35) dX5_sheet_20 (by decide) (by omega) (by omega) (fun c20 => ?_) (fun c20 => ?_)
        · rw [if_neg (by omega)]
          exact K (by omega) (by omega)
        · refine ev_iload_n dX5_sheet_23 rfl ?_
          refine ev_bipush dX5_sheet_24 (by decide) ?_
          refine ev_icmp_eq (tgt := 35) dX5_sheet_26 (by decide) (by omega) (by omega) (fun c26 => ?_) (fun c26 => ?_)
          · rw [if_neg (by omega)]
            exact K (by omega) (by omega)
          · rw [if_pos (by omega)]
            refine ev_aload_n dX5_sheet_29 rfl ?_
            refine ev_iconst dX5_sheet_30 ?_
            refine ev_V1 (c_X5_finding (by omega)) okX5_finding dX5_sheet_31 mlX5_55 rfl rfl ⟨by decide, by decide⟩ rfl (Nat.le_of_ble_eq_true rfl) ?_
            refine ev_iret dX5_sheet_34 rfl rfl ?_
            exact ⟨rfl, sameC_rf⟩
def sc_write (σ : ev_M) (s i v : Int) : Int × ev_M := if ¬ (0 ≤ s ∧ s ≤ 3) then (-1000000001, fnd σ 0) else if σ (ev_rt s.toNat) 1 = 0 then (-1000000006, fnd σ 5) else if ¬ (0 ≤ i ∧ i ≤ σ (ev_rt s.toNat) 2 - 1) then (-1000000001, fnd σ 0) else (σ (ev_rt s.toNat + 1) i, mup σ (ev_rt s.toNat + 1) i (cutv (σ (ev_rt s.toNat) 1) v))
theorem c_X5_write {b : ev_B} {σ : ev_M} {s i v : Int} (HS : okS σ) (h1 : (-2147483648 ≤ s ∧ s < 2147483648)) (h2 : (-2147483648 ≤ i ∧ i < 2147483648)) (h3 : (-9223372036854775808 ≤ v ∧ v < 9223372036854775808)) : Cl b mX5_write [vR 0, vI s, vI i, vL v] σ (fun r τ => r = some (vL (sc_write σ s i v).1) ∧ sameC (sc_write σ s i v).2 τ) := by
  refine ev_enter okX5_write.1 (Nat.le_of_ble_eq_true rfl) ?_
  unfold sc_write
  refine ev_iload_n dX5_write_0 rfl ?_
  refine ev_Sbne (tgt := 14) (c_X5_isSheet (by omega)) okX5_isSheet dX5_write_1 mlX5_208 ⟨by decide, by decide⟩ rfl (Nat.le_of_ble_eq_true rfl) dX5_write_4 (by decide) (fun c1 => ?_) (fun c1 => ?_)
  · rw [if_neg (by omega)]
    have hq := isS_rt c1
    generalize hqe : ev_rt s.toNat = q at hq ⊢
    obtain ⟨s1, s2, s3⟩ := HS q hq
    refine ev_aload_n dX5_write_14 rfl ?_
    refine ev_getr 5 dX5_write_15 rfl rfl flX5_38 iwX5 (by decide) rfl ?_
    refine ev_iload_n dX5_write_18 rfl ?_
    refine ev_aald dX5_write_19 rfl (by omega) ?_
    rw [hqe]
    refine ev_astore dX5_write_20 (by decide) rfl ?_
    refine ev_aload dX5_write_22 rfl ?_
    refine ev_Vbeq (tgt := 37) (c_X3_isMissing hq (by omega)) okX3_isMissing dX5_write_24 mlX5_218 (sk0 hq) rfl ⟨by decide, by decide⟩ rfl (Nat.le_of_ble_eq_true rfl) dX5_write_27 (by decide) (fun c24 => ?_) (fun c24 => ?_)
    · rw [if_neg (by omega)]
      refine ev_iload_n dX5_write_37 rfl ?_
      refine ev_iconst dX5_write_38 ?_
      refine ev_aload dX5_write_39 rfl ?_
      refine ev_geti 2 2 dX5_write_41 (sk0 hq) rfl flX5_215 iwX3 (by decide) rfl rfl ?_
      refine ev_iconst dX5_write_44 ?_
      refine ev_isub dX5_write_45 ?_
      refine ev_Sbne (tgt := 59) (c_X5_isWithin (by omega) (by omega) (by omega)) okX5_isWithin dX5_write_46 mlX5_51 ⟨by decide, by decide⟩ rfl (Nat.le_of_ble_eq_true rfl) dX5_write_49 (by decide) (fun c46 => ?_) (fun c46 => ?_)
      · rw [if_neg (by omega)]
        refine ev_aload dX5_write_59 rfl ?_
        refine ev_getr 0 dX5_write_61 (sk0 hq) rfl flX5_222 iwX3 (by decide) rfl ?_
        refine ev_iload_n dX5_write_64 rfl ?_
        refine ev_lald dX5_write_65 (sk1 hq) (by omega) ?_
        refine ev_lstore dX5_write_66 (by decide) rfl ?_
        refine ev_aload dX5_write_68 rfl ?_
        refine ev_iload_n dX5_write_70 rfl ?_
        refine ev_lload_n dX5_write_71 rfl ?_
        refine ev_V0 (c_X3_put hq s1 (by omega)) okX3_put dX5_write_72 mlX5_226 (sk0 hq) rfl ⟨by decide, by decide⟩ rfl (Nat.le_of_ble_eq_true rfl) ?_
        refine ev_lload dX5_write_75 rfl ?_
        refine ev_lret dX5_write_77 rfl ?_
        exact ⟨rfl, sameC_rf⟩
      · rw [if_pos (by omega)]
        refine ev_aload_n dX5_write_52 rfl ?_
        refine ev_iconst dX5_write_53 ?_
        refine ev_V1 (c_X5_finding (by omega)) okX5_finding dX5_write_54 mlX5_55 rfl rfl ⟨by decide, by decide⟩ rfl (Nat.le_of_ble_eq_true rfl) ?_
        refine ev_i2l dX5_write_57 (by omega) ?_
        refine ev_lret dX5_write_58 rfl ?_
        exact ⟨rfl, sameC_rf⟩
    · rw [if_pos (by omega)]
      refine ev_aload_n dX5_write_30 rfl ?_
      refine ev_iconst dX5_write_31 ?_
      refine ev_V1 (c_X5_finding (by omega)) okX5_finding dX5_write_32 mlX5_55 rfl rfl ⟨by decide, by decide⟩ rfl (Nat.le_of_ble_eq_true rfl) ?_
      refine ev_i2l dX5_write_35 (by omega) ?_
      refine ev_lret dX5_write_36 rfl ?_
      exact ⟨rfl, sameC_rf⟩
  · rw [if_pos (by omega)]
    refine ev_aload_n dX5_write_7 rfl ?_
    refine ev_iconst dX5_write_8 ?_
    refine ev_V1 (c_X5_finding (by omega)) okX5_finding dX5_write_9 mlX5_55 rfl rfl ⟨by decide, by decide⟩ rfl (Nat.le_of_ble_eq_true rfl) ?_
    refine ev_i2l dX5_write_12 (by omega) ?_
    refine ev_lret dX5_write_13 rfl ?_
    exact ⟨rfl, sameC_rf⟩
def sc_copy (σ : ev_M) (s f t g n : Int) : Int × ev_M := if ¬ ((0 ≤ s ∧ s ≤ 3) ∧ (0 ≤ t ∧ t ≤ 3)) then (-1000000001, fnd σ 0) else if σ (ev_rt s.toNat) 1 = 0 ∨ σ (ev_rt t.toNat) 1 = 0 then (-1000000006, fnd σ 5) else if ¬ σ (ev_rt s.toNat) 1 = σ (ev_rt t.toNat) 1 then (-1000000003, fnd σ 2) else if ¬ ((0 ≤ f ∧ 0 ≤ n ∧ n ≤ σ (ev_rt s.toNat) 2 - f) ∧ (0 ≤ g ∧ 0 ≤ n ∧ n ≤ σ (ev_rt t.toNat) 2 - g)) then (-1000000001, fnd σ 0) else (n, mcp σ (ev_rt s.toNat + 1) f (ev_rt t.toNat + 1) g n)
theorem c_X5_copy {b : ev_B} {σ : ev_M} {s f t g n : Int} (HS : okS σ) (h1 : (-2147483648 ≤ s ∧ s < 2147483648)) (h2 : (-2147483648 ≤ f ∧ f < 2147483648)) (h3 : (-2147483648 ≤ t ∧ t < 2147483648)) (h4 : (-2147483648 ≤ g ∧ g < 2147483648)) (h5 : (-2147483648 ≤ n ∧ n < 2147483648)) : Cl b mX5_copy [vR 0, vI s, vI f, vI t, vI g, vI n] σ (fun r τ => r = some (vI (sc_copy σ s f t g n).1) ∧ sameC (sc_copy σ s f t g n).2 τ) := by
  refine ev_enter okX5_copy.1 (Nat.le_of_ble_eq_true rfl) ?_
  unfold sc_copy
  refine ev_iload_n dX5_copy_0 rfl ?_
  refine ev_Sbeq (tgt := 14) (c_X5_isSheet (by omega)) okX5_isSheet dX5_copy_1 mlX5_208 ⟨by decide, by decide⟩ rfl (Nat.le_of_ble_eq_true rfl) dX5_copy_4 (by decide) (fun c1 => ?_) (fun c1 => ?_)
  · rw [if_pos (by omega)]
    refine ev_aload_n dX5_copy_14 rfl ?_
    refine ev_iconst dX5_copy_15 ?_
    refine ev_V1 (c_X5_finding (by omega)) okX5_finding dX5_copy_16 mlX5_55 rfl rfl ⟨by decide, by decide⟩ rfl (Nat.le_of_ble_eq_true rfl) ?_
    refine ev_iret dX5_copy_19 rfl rfl ?_
    exact ⟨rfl, sameC_rf⟩
  · refine ev_iload_n dX5_copy_7 rfl ?_
    refine ev_Sbne (tgt := 20) (c_X5_isSheet (by omega)) okX5_isSheet dX5_copy_8 mlX5_208 ⟨by decide, by decide⟩ rfl (Nat.le_of_ble_eq_true rfl) dX5_copy_11 (by decide) (fun c8 => ?_) (fun c8 => ?_)
    · rw [if_neg (by omega)]
      have hq := isS_rt c1
      have ho := isS_rt c8
      generalize hqe : ev_rt s.toNat = q at hq ⊢
      generalize hoe : ev_rt t.toNat = o at ho ⊢
      obtain ⟨s1, s2, s3⟩ := HS q hq
      obtain ⟨o1, o2, o3⟩ := HS o ho
      refine ev_aload_n dX5_copy_20 rfl ?_
      refine ev_getr 5 dX5_copy_21 rfl rfl flX5_38 iwX5 (by decide) rfl ?_
      refine ev_iload_n dX5_copy_24 rfl ?_
      refine ev_aald dX5_copy_25 rfl (by omega) ?_
      rw [hqe]
      refine ev_astore dX5_copy_26 (by decide) rfl ?_
      refine ev_aload_n dX5_copy_28 rfl ?_
      refine ev_getr 5 dX5_copy_29 rfl rfl flX5_38 iwX5 (by decide) rfl ?_
      refine ev_iload_n dX5_copy_32 rfl ?_
      refine ev_aald dX5_copy_33 rfl (by omega) ?_
      rw [hoe]
      refine ev_astore dX5_copy_34 (by decide) rfl ?_
      refine ev_aload dX5_copy_36 rfl ?_
      refine ev_Vbne (tgt := 52) (c_X3_isMissing hq (by omega)) okX3_isMissing dX5_copy_38 mlX5_218 (sk0 hq) rfl ⟨by decide, by decide⟩ rfl (Nat.le_of_ble_eq_true rfl) dX5_copy_41 (by decide) (fun c38 => ?_) (fun c38 => ?_)
      · rw [if_pos (by omega)]
        refine ev_aload_n dX5_copy_52 rfl ?_
        refine ev_iconst dX5_copy_53 ?_
        refine ev_V1 (c_X5_finding (by omega)) okX5_finding dX5_copy_54 mlX5_55 rfl rfl ⟨by decide, by decide⟩ rfl (Nat.le_of_ble_eq_true rfl) ?_
        refine ev_iret dX5_copy_57 rfl rfl ?_
        exact ⟨rfl, sameC_rf⟩
      · refine ev_aload dX5_copy_44 rfl ?_
        refine ev_Vbeq (tgt := 58) (c_X3_isMissing ho (by omega)) okX3_isMissing dX5_copy_46 mlX5_218 (sk0 ho) rfl ⟨by decide, by decide⟩ rfl (Nat.le_of_ble_eq_true rfl) dX5_copy_49 (by decide) (fun c46 => ?_) (fun c46 => ?_)
        · rw [if_neg (by omega)]
          refine ev_aload dX5_copy_58 rfl ?_
          refine ev_geti 1 1 dX5_copy_60 (sk0 hq) rfl flX5_230 iwX3 (by decide) rfl rfl ?_
          refine ev_aload dX5_copy_63 rfl ?_
          refine ev_geti 1 1 dX5_copy_65 (sk0 ho) rfl flX5_230 iwX3 (by decide) rfl rfl ?_
          refine ev_icmp_eq (tgt := 77) dX5_copy_68 (by decide) (by omega) (by omega) (fun c68 => ?_) (fun c68 => ?_)
          · rw [if_neg (by omega)]
            refine ev_aload dX5_copy_77 rfl ?_
            refine ev_iload_n dX5_copy_79 rfl ?_
            refine ev_iload dX5_copy_80 rfl ?_
            refine ev_Vbeq (tgt := 100) (c_X3_hasRun hq (by omega) (by omega) (by omega)) okX3_hasRun dX5_copy_82 mlX5_233 (sk0 hq) rfl ⟨by decide, by decide⟩ rfl (Nat.le_of_ble_eq_true rfl) dX5_copy_85 (by decide) (fun c82 => ?_) (fun c82 => ?_)
            · rw [if_pos (by omega)]
              refine ev_aload_n dX5_copy_100 rfl ?_
              refine ev_iconst dX5_copy_101 ?_
              refine ev_V1 (c_X5_finding (by omega)) okX5_finding dX5_copy_102 mlX5_55 rfl rfl ⟨by decide, by decide⟩ rfl (Nat.le_of_ble_eq_true rfl) ?_
              refine ev_iret dX5_copy_105 rfl rfl ?_
              exact ⟨rfl, sameC_rf⟩
            · refine ev_aload dX5_copy_88 rfl ?_
              refine ev_iload dX5_copy_90 rfl ?_
              refine ev_iload dX5_copy_92 rfl ?_
              refine ev_Vbne (tgt := 106) (c_X3_hasRun ho (by omega) (by omega) (by omega)) okX3_hasRun dX5_copy_94 mlX5_233 (sk0 ho) rfl ⟨by decide, by decide⟩ rfl (Nat.le_of_ble_eq_true rfl) dX5_copy_97 (by decide) (fun c94 => ?_) (fun c94 => ?_)
              · rw [if_neg (by omega)]
                refine ev_aload dX5_copy_106 rfl ?_
                refine ev_getr 0 dX5_copy_108 (sk0 hq) rfl flX5_222 iwX3 (by decide) rfl ?_
                refine ev_iload_n dX5_copy_111 rfl ?_
                refine ev_aload dX5_copy_112 rfl ?_
                refine ev_getr 0 dX5_copy_114 (sk0 ho) rfl flX5_222 iwX3 (by decide) rfl ?_
                refine ev_iload dX5_copy_117 rfl ?_
                refine ev_iload dX5_copy_119 rfl ?_
                refine ev_copyl dX5_copy_121 mlX5_236 ac_n ac_s ac_i (sk1 hq) (sk1 ho) (by omega) (by omega) (by omega) (by omega) (by omega) ⟨by decide, Nat.le_of_ble_eq_true rfl⟩ ?_
                refine ev_iload dX5_copy_124 rfl ?_
                refine ev_iret dX5_copy_126 rfl rfl ?_
                exact ⟨rfl, sameC_rf⟩
              · rw [if_pos (by omega)]
                refine ev_aload_n dX5_copy_100 rfl ?_
                refine ev_iconst dX5_copy_101 ?_
                refine ev_V1 (c_X5_finding (by omega)) okX5_finding dX5_copy_102 mlX5_55 rfl rfl ⟨by decide, by decide⟩ rfl (Nat.le_of_ble_eq_true rfl) ?_
                refine ev_iret dX5_copy_105 rfl rfl ?_
                exact ⟨rfl, sameC_rf⟩
          · rw [if_pos (by omega)]
            refine ev_aload_n dX5_copy_71 rfl ?_
            refine ev_iconst dX5_copy_72 ?_
            refine ev_V1 (c_X5_finding (by omega)) okX5_finding dX5_copy_73 mlX5_55 rfl rfl ⟨by decide, by decide⟩ rfl (Nat.le_of_ble_eq_true rfl) ?_
            refine ev_iret dX5_copy_76 rfl rfl ?_
            exact ⟨rfl, sameC_rf⟩
        · rw [if_pos (by omega)]
          refine ev_aload_n dX5_copy_52 rfl ?_
          refine ev_iconst dX5_copy_53 ?_
          refine ev_V1 (c_X5_finding (by omega)) okX5_finding dX5_copy_54 mlX5_55 rfl rfl ⟨by decide, by decide⟩ rfl (Nat.le_of_ble_eq_true rfl) ?_
          refine ev_iret dX5_copy_57 rfl rfl ?_
          exact ⟨rfl, sameC_rf⟩
    · rw [if_pos (by omega)]
      refine ev_aload_n dX5_copy_14 rfl ?_
      refine ev_iconst dX5_copy_15 ?_
      refine ev_V1 (c_X5_finding (by omega)) okX5_finding dX5_copy_16 mlX5_55 rfl rfl ⟨by decide, by decide⟩ rfl (Nat.le_of_ble_eq_true rfl) ?_
      refine ev_iret dX5_copy_19 rfl rfl ?_
      exact ⟨rfl, sameC_rf⟩
def lyM (σ : ev_M) (q : Nat) (i : Int) : ev_M := fun a j => if a = 2 ∧ (0 ≤ j ∧ j < i) ∧ (0 ≤ σ (q + 1) j ∧ σ (q + 1) j ≤ 99) then σ (q + 1) j else σ a j
def lyN (f : Int → Int) : Int → Int := fun j => if 0 ≤ f j ∧ f j ≤ 99 then 1 else 0
theorem lyM_ne {σ : ev_M} {q : Nat} {i : Int} {a : Nat} (h : a ≠ 2) : lyM σ q i a = σ a := by
  funext j; unfold lyM; rw [if_neg (fun w => h w.1)]
theorem lyM_0 {σ : ev_M} {q : Nat} : lyM σ q 0 = σ := by
  funext a j; unfold lyM; rw [if_neg (by omega)]
theorem lyM_yes {σ : ev_M} {q : Nat} {i : Int} (hi : 0 ≤ i) (h : 0 ≤ σ (q + 1) i ∧ σ (q + 1) i ≤ 99) : mup (lyM σ q i) 2 i (σ (q + 1) i) = lyM σ q (i + 1) := by
  funext a j
  rw [mup]
  unfold lyM
  by_cases e : a = 2 ∧ j = i
  · obtain ⟨rfl, rfl⟩ := e
    rw [if_pos ⟨rfl, rfl⟩, if_pos ⟨rfl, by omega, h⟩]
  · rw [if_neg e]
    by_cases w : a = 2 ∧ (0 ≤ j ∧ j < i) ∧ (0 ≤ σ (q + 1) j ∧ σ (q + 1) j ≤ 99)
    · rw [if_pos w, if_pos ⟨w.1, by omega, w.2.2⟩]
    · rw [if_neg w, if_neg (fun z => w ⟨z.1, by omega, z.2.2⟩)]
theorem lyM_no {σ : ev_M} {q : Nat} {i : Int} (hi : 0 ≤ i) (h : ¬ (0 ≤ σ (q + 1) i ∧ σ (q + 1) i ≤ 99)) : lyM σ q i = lyM σ q (i + 1) := by
  funext a j
  unfold lyM
  by_cases w : a = 2 ∧ (0 ≤ j ∧ j < i) ∧ (0 ≤ σ (q + 1) j ∧ σ (q + 1) j ≤ 99)
  · rw [if_pos w, if_pos ⟨w.1, by omega, w.2.2⟩]
  · rw [if_neg w, if_neg]
    intro z
    by_cases e : j = i
    · rw [e] at z; exact h z.2.2
    · exact w ⟨z.1, by omega, z.2.2⟩
def sc_lays (σ : ev_M) (s : Int) : Int × ev_M := if ¬ (0 ≤ s ∧ s ≤ 3) then (-1000000001, fnd σ 0) else if σ (ev_rt s.toNat) 1 = 0 then (-1000000006, fnd σ 5) else (sm (lyN (σ (ev_rt s.toNat + 1))) (σ (ev_rt s.toNat) 2).toNat, lyM σ (ev_rt s.toNat) (σ (ev_rt s.toNat) 2))
theorem c_X5_lays {b : ev_B} {σ : ev_M} {s : Int} (HS : okS σ) (h1 : (-2147483648 ≤ s ∧ s < 2147483648)) : Cl b mX5_lays [vR 0, vI s] σ (fun r τ => r = some (vI (sc_lays σ s).1) ∧ sameC (sc_lays σ s).2 τ) := by
  refine ev_enter okX5_lays.1 (Nat.le_of_ble_eq_true rfl) ?_
  unfold sc_lays
  refine ev_iload_n dX5_lays_0 rfl ?_
  refine ev_Sbne (tgt := 13) (c_X5_isSheet (by omega)) okX5_isSheet dX5_lays_1 mlX5_208 ⟨by decide, by decide⟩ rfl (Nat.le_of_ble_eq_true rfl) dX5_lays_4 (by decide) (fun c1 => ?_) (fun c1 => ?_)
  · rw [if_neg (by omega)]
    have hq := isS_rt c1
    generalize hqe : ev_rt s.toNat = q at hq ⊢
    obtain ⟨s1, s2, s3⟩ := HS q hq
    have hqb : 37 ≤ q := by rcases hq with rfl | rfl | rfl | rfl <;> omega
    refine ev_aload_n dX5_lays_13 rfl ?_
    refine ev_getr 5 dX5_lays_14 rfl rfl flX5_38 iwX5 (by decide) rfl ?_
    refine ev_iload_n dX5_lays_17 rfl ?_
    refine ev_aald dX5_lays_18 rfl (by omega) ?_
    rw [hqe]
    refine ev_astore_n dX5_lays_19 (by decide) rfl ?_
    refine ev_aload_n dX5_lays_20 rfl ?_
    refine ev_Vbeq (tgt := 33) (c_X3_isMissing hq (by omega)) okX3_isMissing dX5_lays_21 mlX5_218 (sk0 hq) rfl ⟨by decide, by decide⟩ rfl (Nat.le_of_ble_eq_true rfl) dX5_lays_24 (by decide) (fun c21 => ?_) (fun c21 => ?_)
    · rw [if_neg (by omega)]
      obtain ⟨n, hn, hn2⟩ := nn_ex s2.1
      rw [hn2, hn]
      have loop : ∀ (m i : Nat) (ls : List (Nat × ev_V)), ev_lk ls 0 = some (vR 0) → ev_lk ls 2 = some (vR q) → ev_lk ls 3 = some (vI (sm (lyN (σ (q + 1))) i)) → ev_lk ls 4 = some (vI i) → i + m = n → Ev b mX5_lays 38 ls [] (lyM σ q i) (fun r τ => r = some (vI (sm (lyN (σ (q + 1))) n)) ∧ sameC (lyM σ q n) τ) := by
        intro m
        induction m with
        | zero =>
          intro i ls l0 l2 l3 l4 h
          refine Ev.lsub (ls' := [(0, vR 0), (2, vR q), (3, vI (sm (lyN (σ (q + 1))) i)), (4, vI i)]) (by simp [l0, l2, l3, l4]) ?_
          have e2 : lyM σ q i q 2 = σ q 2 := by rw [lyM_ne (by omega)]
          refine ev_iload dX5_lays_38 rfl ?_
          refine ev_aload_n dX5_lays_40 rfl ?_
          refine ev_geti 2 2 dX5_lays_41 (sk0 hq) rfl flX5_215 iwX3 (by decide) rfl rfl ?_
          refine ev_icmp_ge (tgt := 94) dX5_lays_44 (by decide) (by omega) (by omega) (fun c44 => ?_) (fun c44 => ?_)
          · refine ev_iload_n dX5_lays_94 rfl ?_
            refine ev_iret dX5_lays_95 rfl rfl ?_
            have e : i = n := by omega
            subst e
            exact ⟨rfl, sameC_rf⟩
          · exact absurd c44 (by omega)
        | succ m ih =>
          intro i ls l0 l2 l3 l4 h
          refine Ev.lsub (ls' := [(0, vR 0), (2, vR q), (3, vI (sm (lyN (σ (q + 1))) i)), (4, vI i)]) (by simp [l0, l2, l3, l4]) ?_
          have e2 : lyM σ q i q 2 = σ q 2 := by rw [lyM_ne (by omega)]
          have e1 : lyM σ q i (q + 1) i = σ (q + 1) i := by rw [lyM_ne (by omega)]
          have nb := s3 i (by omega)
          have no : ¬ (0 ≤ σ (q + 1) i ∧ σ (q + 1) i ≤ 99) → ∀ ls : List (Nat × ev_V), ev_lk ls 0 = some (vR 0) → ev_lk ls 2 = some (vR q) → ev_lk ls 3 = some (vI (sm (lyN (σ (q + 1))) i)) → ev_lk ls 4 = some (vI i) → Ev b mX5_lays 88 ls [] (lyM σ q i) (fun r τ => r = some (vI (sm (lyN (σ (q + 1))) n)) ∧ sameC (lyM σ q n) τ) := by
            intro hno ls l0 l2 l3 l4
            refine Ev.lsub (ls' := [(0, vR 0), (2, vR q), (3, vI (sm (lyN (σ (q + 1))) i)), (4, vI i)]) (by simp [l0, l2, l3, l4]) ?_
            refine ev_iinc dX5_lays_88 rfl (by decide) rfl ?_
            refine ev_goto (tgt := 38) dX5_lays_91 (by decide) ?_
            rw [lyM_no (by omega) hno]
            refine ih (i + 1) _ rfl rfl ?_ rfl (by omega)
            show some (vI _) = some (vI _)
            rw [sm]
            unfold lyN
            rw [if_neg hno, Int.add_zero]
          refine ev_iload dX5_lays_38 rfl ?_
          refine ev_aload_n dX5_lays_40 rfl ?_
          refine ev_geti 2 2 dX5_lays_41 (sk0 hq) rfl flX5_215 iwX3 (by decide) rfl rfl ?_
          refine ev_icmp_ge (tgt := 94) dX5_lays_44 (by decide) (by omega) (by omega) (fun c44 => ?_) (fun c44 => ?_)
          · exact absurd c44 (by omega)
          · refine ev_aload_n dX5_lays_47 rfl ?_
            refine ev_getr 0 dX5_lays_48 (sk0 hq) rfl flX5_222 iwX3 (by decide) rfl ?_
            refine ev_iload dX5_lays_51 rfl ?_
            refine ev_lald dX5_lays_53 (sk1 hq) (by omega) ?_
            rw [e1]
            refine ev_lstore dX5_lays_54 (by decide) rfl ?_
            refine ev_lload dX5_lays_56 rfl ?_
            refine ev_lconst (z := 0) dX5_lays_58 rfl ?_
            refine ev_lc_lt (tgt := 88) dX5_lays_59 dX5_lays_60 (by decide) (by omega) (by omega) (fun c59 => ?_) (fun c59 => ?_)
            · exact no (by omega) _ rfl rfl rfl rfl
            · refine ev_lload dX5_lays_63 rfl ?_
              refine ev_ldc2 (z := 99) dX5_lays_65 klX5_242 (by decide) ?_
              refine ev_lc_gt (tgt := 88) dX5_lays_68 dX5_lays_69 (by decide) (by omega) (by omega) (fun c68 => ?_) (fun c68 => ?_)
              · exact no (by omega) _ rfl rfl rfl rfl
              · refine ev_aload_n dX5_lays_72 rfl ?_
                refine ev_getr 0 dX5_lays_73 rfl rfl flX5_10 iwX5 (by decide) rfl ?_
                refine ev_getr 0 dX5_lays_76 rfl rfl flX5_59 iwX2 (by decide) rfl ?_
                refine ev_iload dX5_lays_79 rfl ?_
                refine ev_lload dX5_lays_81 rfl ?_
                refine ev_l2i dX5_lays_83 ?_
                refine ev_iast dX5_lays_84 rfl (by omega) ?_
                rw [lyM_yes (by omega) (by omega)]
                refine ev_iinc dX5_lays_85 rfl (by decide) rfl ?_
                refine ev_iinc dX5_lays_88 rfl (by decide) rfl ?_
                refine ev_goto (tgt := 38) dX5_lays_91 (by decide) ?_
                refine ih (i + 1) _ rfl rfl ?_ rfl (by omega)
                show some (vI _) = some (vI _)
                rw [sm]
                unfold lyN
                rw [if_pos (by omega)]
      refine ev_iconst dX5_lays_33 ?_
      refine ev_istore_n dX5_lays_34 (by decide) rfl ?_
      refine ev_iconst dX5_lays_35 ?_
      refine ev_istore dX5_lays_36 (by decide) rfl ?_
      have l := loop n 0 [(0, vR 0), (1, vI s), (2, vR q), (3, vI 0), (4, vI 0)] rfl rfl rfl rfl (by omega)
      rw [show ((0 : Nat) : Int) = 0 from rfl, lyM_0] at l
      exact l
    · rw [if_pos (by omega)]
      refine ev_aload_n dX5_lays_27 rfl ?_
      refine ev_iconst dX5_lays_28 ?_
      refine ev_V1 (c_X5_finding (by omega)) okX5_finding dX5_lays_29 mlX5_55 rfl rfl ⟨by decide, by decide⟩ rfl (Nat.le_of_ble_eq_true rfl) ?_
      refine ev_iret dX5_lays_32 rfl rfl ?_
      exact ⟨rfl, sameC_rf⟩
  · rw [if_pos (by omega)]
    refine ev_aload_n dX5_lays_7 rfl ?_
    refine ev_iconst dX5_lays_8 ?_
    refine ev_V1 (c_X5_finding (by omega)) okX5_finding dX5_lays_9 mlX5_55 rfl rfl ⟨by decide, by decide⟩ rfl (Nat.le_of_ble_eq_true rfl) ?_
    refine ev_iret dX5_lays_12 rfl rfl ?_
    exact ⟨rfl, sameC_rf⟩
