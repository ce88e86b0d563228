/-! days of the model, and what is told of now -/
def frD (σ τ : ev_M) : Prop := ∀ a : Nat, a ≠ 47 → a ≠ 50 → a < 52 ∨ 54 < a → τ a = σ a
theorem frD_rf {σ : ev_M} : frD σ σ := fun _ _ _ _ => rfl
theorem frD_tr {σ τ ω : ev_M} (h : frD σ τ) (g : frD τ ω) : frD σ ω := fun a h1 h2 h3 => by rw [g a h1 h2 h3, h a h1 h2 h3]
theorem c_X6_daysGo {b : ev_B} {σ : ev_M} {n : Nat} (H : okP (wr (σ 47))) (ha : 0 ≤ σ 46 6 ∧ σ 46 6 < 256) (hn : n < 1000) : Cl b mX6_daysGo [vR 46, vI n] σ (fun r τ => r = some (vI (eatN (wr (σ 47)) (prA (σ 46 6)) n)) ∧ eqP (wr (τ 47)) (dayN (wr (σ 47)) (prA (σ 46 6)) n) ∧ ∀ a : Nat, a ≠ 47 → a < 52 ∨ 54 < a → τ a = σ a) := by
  refine ev_enter okX6_daysGo.1 (Nat.le_of_ble_eq_true rfl) ?_
  generalize hP : wr (σ 47) = P at *
  generalize hpr : prA (σ 46 6) = pr at *
  have loop : ∀ (m k : Nat) (τ : ev_M), k + m = n → eqP (wr (τ 47)) (dayN P pr k) → (∀ a : Nat, a ≠ 47 → a < 52 ∨ 54 < a → τ a = σ a) → Ev b mX6_daysGo 4 [(0, vR 46), (1, vI n), (2, vI (eatN P pr k)), (3, vI k)] [] τ (fun r τ => r = some (vI (eatN P pr n)) ∧ eqP (wr (τ 47)) (dayN P pr n) ∧ ∀ a : Nat, a ≠ 47 → a < 52 ∨ 54 < a → τ a = σ a) := by
    intro m
    induction m with
    | zero =>
      intro k τ h e f
      refine ev_iload_n dX6_daysGo_4 rfl ?_
      refine ev_iload_n dX6_daysGo_5 rfl ?_
      refine ev_icmp_ge (tgt := 22) dX6_daysGo_6 (by decide) (by omega) (by omega) (fun c6 => ?_) (fun c6 => ?_)
      · refine ev_iload_n dX6_daysGo_22 rfl ?_
        refine ev_iret dX6_daysGo_23 rfl rfl ?_
        have e2 : k = n := by omega
        subst e2
        exact ⟨rfl, e, f⟩
      · exact absurd c6 (by omega)
    | succ m ih =>
      intro k τ h e f
      have Hk := okP_dayN (pr := pr) H k
      have e46 : τ 46 6 = σ 46 6 := by rw [f 46 (by omega) (by omega)]
      refine ev_iload_n dX6_daysGo_4 rfl ?_
      refine ev_iload_n dX6_daysGo_5 rfl ?_
      refine ev_icmp_ge (tgt := 22) dX6_daysGo_6 (by decide) (by omega) (by omega) (fun c6 => ?_) (fun c6 => ?_)
      · exact absurd c6 (by omega)
      · refine ev_iload_n dX6_daysGo_9 rfl ?_
        refine ev_aload_n dX6_daysGo_10 rfl ?_
        refine ev_callV (c_X6_day (eqP_ok e Hk) (by rw [e46]; exact ha)) okX6_day dX6_daysGo_11 mlX6_163 rfl rfl ⟨by decide, by decide⟩ rfl (Nat.le_of_ble_eq_true rfl) (fun r11 τ11 h11 => ?_)
        obtain ⟨rfl, g1, g2⟩ := h11
        rw [e46, hpr] at g1 ⊢
        have ed := eqP_dayP (pr := pr) e Hk
        rw [ed.2]
        refine ev_iadd dX6_daysGo_14 ?_
        refine ev_istore_n dX6_daysGo_15 (by decide) rfl ?_
        refine ev_iinc dX6_daysGo_16 rfl (by decide) rfl ?_
        refine ev_goto (tgt := 4) dX6_daysGo_19 (by decide) ?_
        rw [← eatN_s]
        exact ih (k + 1) τ11 (by omega) (eqP_trans g1 ed.1) (fun a h1 h2 => by rw [g2 a h1 h2]; exact f a h1 h2)
  refine ev_iconst dX6_daysGo_0 ?_
  refine ev_istore_n dX6_daysGo_1 (by decide) rfl ?_
  refine ev_iconst dX6_daysGo_2 ?_
  refine ev_istore_n dX6_daysGo_3 (by decide) rfl ?_
  exact loop n 0 σ (by omega) (by rw [hP]; exact eqP_rf) (fun _ _ _ => rfl)
theorem c_X6_days {b : ev_B} {σ : ev_M} {n : Int} (H : okP (wr (σ 47))) (ha : σ 46 6 = 0) (h1 : (-2147483648 ≤ n ∧ n < 2147483648)) (hd : σ 47 2 ≤ 9999) : Cl b mX6_days [vR 46, vI n] σ (RP σ (sc_days (prj σ) n)) := by
  refine ev_enter okX6_days.1 (Nat.le_of_ble_eq_true rfl) ?_
  unfold sc_days
  rw [prj_1]
  have h0 := okr0 H
  have p12 : prj σ 1 2 = σ 47 2 := rfl
  refine ev_iload_n dX6_days_0 rfl ?_
  refine ev_i2l dX6_days_1 (by omega) ?_
  refine ev_lconst (z := 1) dX6_days_2 rfl ?_
  refine ev_ldc2 (z := 60) dX6_days_3 klX6_166 (by decide) ?_
  refine ev_Sbne (tgt := 19) (c_X6_in (by omega) (by omega) (by omega)) okX6_in dX6_days_6 mlX6_53 ⟨by decide, by decide⟩ rfl (Nat.le_of_ble_eq_true rfl) dX6_days_9 (by decide) (fun c6 => ?_) (fun c6 => ?_)
  · rw [if_pos (by omega)]
    refine ev_aload_n dX6_days_19 rfl ?_
    refine ev_getr 0 dX6_days_20 rfl rfl flX6_7 iwX6 (by decide) rfl ?_
    refine ev_iconst dX6_days_23 ?_
    refine ev_iald dX6_days_24 rfl (by omega) ?_
    refine ev_iload_n dX6_days_25 rfl ?_
    refine ev_iadd dX6_days_26 ?_
    refine ev_sipush dX6_days_27 (by decide) ?_
    refine ev_icmp_le (tgt := 42) dX6_days_30 (by decide) (by omega) (by omega) (fun c30 => ?_) (fun c30 => ?_)
    · rw [if_pos (by omega)]
      obtain ⟨k, hk, hk2⟩ := nn_ex (show 0 ≤ n by omega)
      subst hk
      refine ev_aload_n dX6_days_42 rfl ?_
      refine ev_iload_n dX6_days_43 rfl ?_
      refine ev_callV (c_X6_daysGo H (by omega) (by omega)) okX6_daysGo dX6_days_44 mlX6_169 rfl rfl ⟨by decide, by decide⟩ rfl (Nat.le_of_ble_eq_true rfl) (fun r44 τ44 h44 => ?_)
      obtain ⟨rfl, g1, g2⟩ := h44
      rw [ha, prA_0] at g1 ⊢
      refine ev_iret dX6_days_47 rfl rfl ?_
      rw [hk2]
      refine RP_S (by rw [g2 46 (by omega) (by omega)]; exact ha) (fun a hx => ?_) ?_ (fun a hx _ => g2 a hx (by omega)) (by rw [g2 46 (by omega) (by omega)]) (by rw [g2 46 (by omega) (by omega)])
      · funext i
        unfold setP
        rw [if_neg (by omega)]
      · have e : wn (setP (prj σ) 1 (dayN (wr (σ 47)) allp k)) 1 = fun j i => if j < 9 then dayN (wr (σ 47)) allp k j i else 0 := by
          funext j i
          unfold wn setP
          by_cases hj : j < 9
          · rw [if_pos hj, if_pos hj, if_pos (by omega), show 1 + j - 1 = j by omega]
          · rw [if_neg hj, if_neg hj]
        rw [e]
        exact eqP_symm g1
    · rw [if_neg (by omega)]
      refine ev_aload_n dX6_days_33 rfl ?_
      refine ev_ldc (z := -1000000005) dX6_days_34 kcX6_168 (by decide) ?_
      refine ev_V1 (c_X6_finds (by omega)) okX6_finds dX6_days_36 mlX6_101 rfl rfl ⟨by decide, by decide⟩ rfl (Nat.le_of_ble_eq_true rfl) ?_
      refine ev_goto (tgt := 47) dX6_days_39 (by decide) ?_
      refine ev_iret dX6_days_47 rfl rfl ?_
      exact RP_fnd ha
  · rw [if_neg (by omega)]
    refine ev_aload_n dX6_days_12 rfl ?_
    refine ev_ldc (z := -1000000001) dX6_days_13 kcX6_50 (by decide) ?_
    refine ev_V1 (c_X6_finds (by omega)) okX6_finds dX6_days_15 mlX6_101 rfl rfl ⟨by decide, by decide⟩ rfl (Nat.le_of_ble_eq_true rfl) ?_
    refine ev_iret dX6_days_18 rfl rfl ?_
    exact RP_fnd ha
theorem c_X6_wheatAll {b : ev_B} {σ : ev_M} : CF b mX6_wheatAll [vR 46] σ (some (vI (WT (wr (σ 47))))) σ := by
  refine ev_enter okX6_wheatAll.1 (Nat.le_of_ble_eq_true rfl) ?_
  unfold WT
  generalize hW : wr (σ 47) 1 = W
  have hWv : ∀ c, σ 47 (4 + c) = W c := fun c => by rw [← hW]; rfl
  have loop : ∀ (m i : Nat), i + m = 48 → Ev b mX6_wheatAll 4 [(0, vR 46), (1, vI (sm W i)), (2, vI i)] [] σ (fun r τ => r = some (vI (sm W 48)) ∧ τ = σ) := by
    intro m
    induction m with
    | zero =>
      intro i h
      refine ev_iload_n dX6_wheatAll_4 rfl ?_
      refine ev_bipush dX6_wheatAll_5 (by decide) ?_
      refine ev_icmp_ge (tgt := 27) dX6_wheatAll_7 (by decide) (by omega) (by omega) (fun c7 => ?_) (fun c7 => ?_)
      · refine ev_iload_n dX6_wheatAll_27 rfl ?_
        refine ev_iret dX6_wheatAll_28 rfl rfl ?_
        have e : i = 48 := by omega
        subst e
        exact ⟨rfl, rfl⟩
      · exact absurd c7 (by omega)
    | succ m ih =>
      intro i h
      refine ev_iload_n dX6_wheatAll_4 rfl ?_
      refine ev_bipush dX6_wheatAll_5 (by decide) ?_
      refine ev_icmp_ge (tgt := 27) dX6_wheatAll_7 (by decide) (by omega) (by omega) (fun c7 => ?_) (fun c7 => ?_)
      · exact absurd c7 (by omega)
      · refine ev_iload_n dX6_wheatAll_10 rfl ?_
        refine ev_aload_n dX6_wheatAll_11 rfl ?_
        refine ev_getr 0 dX6_wheatAll_12 rfl rfl flX6_7 iwX6 (by decide) rfl ?_
        refine ev_iconst dX6_wheatAll_15 ?_
        refine ev_iload_n dX6_wheatAll_16 rfl ?_
        refine ev_iadd dX6_wheatAll_17 ?_
        refine ev_iald dX6_wheatAll_18 rfl (by omega) ?_
        refine ev_iadd dX6_wheatAll_19 ?_
        refine ev_istore_n dX6_wheatAll_20 (by decide) rfl ?_
        refine ev_iinc dX6_wheatAll_21 rfl (by decide) rfl ?_
        refine ev_goto (tgt := 4) dX6_wheatAll_24 (by decide) ?_
        rw [hWv]
        exact ih (i + 1) (by omega)
  refine ev_iconst dX6_wheatAll_0 ?_
  refine ev_istore_n dX6_wheatAll_1 (by decide) rfl ?_
  refine ev_iconst dX6_wheatAll_2 ?_
  refine ev_istore_n dX6_wheatAll_3 (by decide) rfl ?_
  exact loop 48 0 (by omega)
theorem stf_cnt {f : Int → Bool} : ∀ n : Nat, 0 ≤ sm (fun l => if f l = true then (1 : Int) else 0) n ∧ (stf f n = 0 ↔ sm (fun l => if f l = true then (1 : Int) else 0) n = 0)
  | 0 => ⟨by simp [sm], by simp [stf, sm]⟩
  | n + 1 => by
    have ih := stf_cnt (f := f) n
    have sb := stf_bd f n
    have e : pw ((n : Nat) : Int) ≥ 1 := by omega
    rw [stf_s2, sm]
    by_cases q : f n = true
    · rw [if_pos q, if_pos q]; omega
    · rw [if_neg q, if_neg q]; omega
theorem c_X6_fees {b : ev_B} {σ : ev_M} (H : okP (wr (σ 47))) (ha : σ 46 6 = 0) : CF b mX6_fees [vR 46] σ (some (vI (sm (fun k => if stf (fun l => decide (prj σ 8 l = k)) (σ 47 1).toNat = 0 then 0 else prj σ 5 k) (σ 47 0).toNat))) σ := by
  refine ev_enter okX6_fees.1 (Nat.le_of_ble_eq_true rfl) ?_
  have h0 := okr0 H
  obtain ⟨ns, hns, hns2⟩ := nn_ex h0.2.2.1.1
  rw [hns2]
  generalize hg : (fun k => if stf (fun l => decide (prj σ 8 l = k)) (σ 47 1).toNat = 0 then 0 else prj σ 5 k) = g
  have hgv : ∀ k, g k = if stf (fun l => decide (prj σ 8 l = k)) (σ 47 1).toNat = 0 then 0 else prj σ 5 k := fun k => by rw [← hg]
  have loop : ∀ (m k : Nat), k + m = ns → Ev b mX6_fees 4 [(0, vR 46), (1, vI (sm g k)), (2, vI k)] [] σ (fun r τ => r = some (vI (sm g ns)) ∧ τ = σ) := by
    intro m
    induction m with
    | zero =>
      intro k h
      refine ev_iload_n dX6_fees_4 rfl ?_
      refine ev_aload_n dX6_fees_5 rfl ?_
      refine ev_getr 0 dX6_fees_6 rfl rfl flX6_7 iwX6 (by decide) rfl ?_
      refine ev_iconst dX6_fees_9 ?_
      refine ev_iald dX6_fees_10 rfl (by omega) ?_
      refine ev_icmp_ge (tgt := 41) dX6_fees_11 (by decide) (by omega) (by omega) (fun c11 => ?_) (fun c11 => ?_)
      · refine ev_iload_n dX6_fees_41 rfl ?_
        refine ev_iret dX6_fees_42 rfl rfl ?_
        have e : k = ns := by omega
        subst e
        exact ⟨rfl, rfl⟩
      · exact absurd c11 (by omega)
    | succ m ih =>
      intro k h
      have sc := stf_cnt (f := fun l => decide (prj σ 8 l = k)) (σ 47 1).toNat
      have ec : sm (fun l => if (fun l => decide (prj σ 8 l = k)) l = true then (1 : Int) else 0) (σ 47 1).toNat = sm (fun l => if σ 47 (76 + 3 * l + 1) = k then 1 else 0) (σ 47 1).toNat := by
        refine sm_congr (fun l _ => ?_)
        show (if decide (σ 47 (76 + 3 * l + 1) = k) = true then (1 : Int) else 0) = _
        by_cases q : σ 47 (76 + 3 * l + 1) = k
        · rw [if_pos q, if_pos (decide_eq_true q)]
        · rw [if_neg q, if_neg (by rw [decide_eq_true_eq]; exact q)]
      rw [ec] at sc
      have cb := sm_bd (f := fun l => if σ 47 (76 + 3 * l + 1) = k then (1 : Int) else 0) (lo := 0) (hi := 1) (n := (σ 47 1).toNat) (fun i _ => by split <;> omega)
      refine ev_iload_n dX6_fees_4 rfl ?_
      refine ev_aload_n dX6_fees_5 rfl ?_
      refine ev_getr 0 dX6_fees_6 rfl rfl flX6_7 iwX6 (by decide) rfl ?_
      refine ev_iconst dX6_fees_9 ?_
      refine ev_iald dX6_fees_10 rfl (by omega) ?_
      refine ev_icmp_ge (tgt := 41) dX6_fees_11 (by decide) (by omega) (by omega) (fun c11 => ?_) (fun c11 => ?_)
      · exact absurd c11 (by omega)
      · refine ev_iload_n dX6_fees_14 rfl ?_
        refine ev_aload_n dX6_fees_15 rfl ?_
        refine ev_iload_n dX6_fees_16 rfl ?_
        refine ev_V1 (c_X6_likenessesOf H ha (by omega)) okX6_likenessesOf dX6_fees_17 mlX6_128 rfl rfl ⟨by decide, by decide⟩ rfl (Nat.le_of_ble_eq_true rfl) ?_
        refine ev_if_le (tgt := 32) dX6_fees_20 (by decide) (by omega) (fun c20 => ?_) (fun c20 => ?_)
        · refine ev_iconst dX6_fees_32 ?_
          refine ev_iadd dX6_fees_33 ?_
          refine ev_istore_n dX6_fees_34 (by decide) rfl ?_
          refine ev_iinc dX6_fees_35 rfl (by decide) rfl ?_
          refine ev_goto (tgt := 4) dX6_fees_38 (by decide) ?_
          have e : sm g k + 0 = sm g (k + 1) := by rw [sm, hgv, if_pos (by omega)]
          rw [e]
          exact ih (k + 1) (by omega)
        · refine ev_aload_n dX6_fees_23 rfl ?_
          refine ev_iload_n dX6_fees_24 rfl ?_
          refine ev_iconst dX6_fees_25 ?_
          refine ev_V1 (c_X6_its (by omega)) okX6_its dX6_fees_26 mlX6_73 rfl rfl ⟨by decide, by decide⟩ rfl (Nat.le_of_ble_eq_true rfl) ?_
          refine ev_goto (tgt := 33) dX6_fees_29 (by decide) ?_
          refine ev_iadd dX6_fees_33 ?_
          refine ev_istore_n dX6_fees_34 (by decide) rfl ?_
          refine ev_iinc dX6_fees_35 rfl (by decide) rfl ?_
          refine ev_goto (tgt := 4) dX6_fees_38 (by decide) ?_
          have e : sm g k + σ 47 (52 + 4 * k + 2) = sm g (k + 1) := by rw [sm, hgv, if_neg (by omega)]; rfl
          rw [e]
          exact ih (k + 1) (by omega)
  refine ev_iconst dX6_fees_0 ?_
  refine ev_istore_n dX6_fees_1 (by decide) rfl ?_
  refine ev_iconst dX6_fees_2 ?_
  refine ev_istore_n dX6_fees_3 (by decide) rfl ?_
  exact loop ns 0 (by omega)
theorem c_X6_feared {b : ev_B} {σ : ev_M} (H : okP (wr (σ 47))) (ha : σ 46 6 = 0) : CF b mX6_feared [vR 46] σ (some (vI (sm (fun c => if 20 ≤ fear (wr (σ 47)) allp c then 1 else 0) 48))) σ := by
  refine ev_enter okX6_feared.1 (Nat.le_of_ble_eq_true rfl) ?_
  have loop : ∀ (m i : Nat), i + m = 48 → Ev b mX6_feared 4 [(0, vR 46), (1, vI (sm (fun c => if 20 ≤ fear (wr (σ 47)) allp c then 1 else 0) i)), (2, vI i)] [] σ (fun r τ => r = some (vI (sm (fun c => if 20 ≤ fear (wr (σ 47)) allp c then 1 else 0) 48)) ∧ τ = σ) := by
    intro m
    induction m with
    | zero =>
      intro i h
      refine ev_iload_n dX6_feared_4 rfl ?_
      refine ev_bipush dX6_feared_5 (by decide) ?_
      refine ev_icmp_ge (tgt := 34) dX6_feared_7 (by decide) (by omega) (by omega) (fun c7 => ?_) (fun c7 => ?_)
      · refine ev_iload_n dX6_feared_34 rfl ?_
        refine ev_iret dX6_feared_35 rfl rfl ?_
        have e : i = 48 := by omega
        subst e
        exact ⟨rfl, rfl⟩
      · exact absurd c7 (by omega)
    | succ m ih =>
      intro i h
      have fb := fear_bd (pr := allp) (c := i) H (by omega)
      refine ev_iload_n dX6_feared_4 rfl ?_
      refine ev_bipush dX6_feared_5 (by decide) ?_
      refine ev_icmp_ge (tgt := 34) dX6_feared_7 (by decide) (by omega) (by omega) (fun c7 => ?_) (fun c7 => ?_)
      · exact absurd c7 (by omega)
      · refine ev_iload_n dX6_feared_10 rfl ?_
        refine ev_aload_n dX6_feared_11 rfl ?_
        refine ev_iload_n dX6_feared_12 rfl ?_
        refine ev_V1 (c_X6_fear H (by omega) (by omega)) okX6_fear dX6_feared_13 mlX6_106 rfl rfl ⟨by decide, by decide⟩ rfl (Nat.le_of_ble_eq_true rfl) ?_
        rw [ha, prA_0]
        refine ev_bipush dX6_feared_16 (by decide) ?_
        refine ev_icmp_lt (tgt := 25) dX6_feared_18 (by decide) (by omega) (by omega) (fun c18 => ?_) (fun c18 => ?_)
        · refine ev_iconst dX6_feared_25 ?_
          refine ev_iadd dX6_feared_26 ?_
          refine ev_istore_n dX6_feared_27 (by decide) rfl ?_
          refine ev_iinc dX6_feared_28 rfl (by decide) rfl ?_
          refine ev_goto (tgt := 4) dX6_feared_31 (by decide) ?_
          have e : sm (fun c => if 20 ≤ fear (wr (σ 47)) allp c then (1 : Int) else 0) i + 0 = sm (fun c => if 20 ≤ fear (wr (σ 47)) allp c then 1 else 0) (i + 1) := by rw [sm, if_neg (by omega)]
          rw [e]
          exact ih (i + 1) (by omega)
        · refine ev_iconst dX6_feared_21 ?_
          refine ev_goto (tgt := 26) dX6_feared_22 (by decide) ?_
          refine ev_iadd dX6_feared_26 ?_
          refine ev_istore_n dX6_feared_27 (by decide) rfl ?_
          refine ev_iinc dX6_feared_28 rfl (by decide) rfl ?_
          refine ev_goto (tgt := 4) dX6_feared_31 (by decide) ?_
          have e : sm (fun c => if 20 ≤ fear (wr (σ 47)) allp c then (1 : Int) else 0) i + 1 = sm (fun c => if 20 ≤ fear (wr (σ 47)) allp c then 1 else 0) (i + 1) := by rw [sm, if_pos (by omega)]
          rw [e]
          exact ih (i + 1) (by omega)
  refine ev_iconst dX6_feared_0 ?_
  refine ev_istore_n dX6_feared_1 (by decide) rfl ?_
  refine ev_iconst dX6_feared_2 ?_
  refine ev_istore_n dX6_feared_3 (by decide) rfl ?_
  exact loop 48 0 (by omega)
theorem c_X6_meeting {b : ev_B} {σ : ev_M} (H : okP (wr (σ 47))) (ha : σ 46 6 = 0) : CF b mX6_meeting [vR 46] σ (some (vI (stf (fun k => decide (0 < mts (wr (σ 47)) allp k (σ 47 1).toNat)) (σ 47 0).toNat))) σ := by
  refine ev_enter okX6_meeting.1 (Nat.le_of_ble_eq_true rfl) ?_
  have h0 := okr0 H
  obtain ⟨ns, hns, hns2⟩ := nn_ex h0.2.2.1.1
  rw [hns2]
  generalize hf : (fun k => decide (0 < mts (wr (σ 47)) allp k (σ 47 1).toNat)) = f
  have hfv : ∀ k, f k = decide (0 < mts (wr (σ 47)) allp k (σ 47 1).toNat) := fun l => by rw [← hf]
  have loop : ∀ (m l : Nat), l + m = ns → Ev b mX6_meeting 4 [(0, vR 46), (1, vI (stf f l)), (2, vI l)] [] σ (fun r τ => r = some (vI (stf f ns)) ∧ τ = σ) := by
    intro m
    induction m with
    | zero =>
      intro l hl
      refine ev_iload_n dX6_meeting_4 rfl ?_
      refine ev_aload_n dX6_meeting_5 rfl ?_
      refine ev_getr 0 dX6_meeting_6 rfl rfl flX6_7 iwX6 (by decide) rfl ?_
      refine ev_iconst dX6_meeting_9 ?_
      refine ev_iald dX6_meeting_10 rfl (by omega) ?_
      refine ev_icmp_ge (tgt := 38) dX6_meeting_11 (by decide) (by omega) (by omega) (fun c11 => ?_) (fun c11 => ?_)
      · refine ev_iload_n dX6_meeting_38 rfl ?_
        refine ev_iret dX6_meeting_39 rfl rfl ?_
        have e : l = ns := by omega
        subst e
        exact ⟨rfl, rfl⟩
      · exact absurd c11 (by omega)
    | succ m ih =>
      intro l hl
      have sb := stf_bd f l
      have mn := mts_nn (P := wr (σ 47)) (pr := allp) (k := l) (n := (σ 47 1).toNat) (by omega)
      refine ev_iload_n dX6_meeting_4 rfl ?_
      refine ev_aload_n dX6_meeting_5 rfl ?_
      refine ev_getr 0 dX6_meeting_6 rfl rfl flX6_7 iwX6 (by decide) rfl ?_
      refine ev_iconst dX6_meeting_9 ?_
      refine ev_iald dX6_meeting_10 rfl (by omega) ?_
      refine ev_icmp_ge (tgt := 38) dX6_meeting_11 (by decide) (by omega) (by omega) (fun c11 => ?_) (fun c11 => ?_)
      · exact absurd c11 (by omega)
      · refine ev_iload_n dX6_meeting_14 rfl ?_
        refine ev_aload_n dX6_meeting_15 rfl ?_
        refine ev_iload_n dX6_meeting_16 rfl ?_
        refine ev_V1 (c_X6_meets H (by omega) (by omega)) okX6_meets dX6_meeting_17 mlX6_131 rfl rfl ⟨by decide, by decide⟩ rfl (Nat.le_of_ble_eq_true rfl) ?_
        rw [ha, prA_0]
        refine ev_if_le (tgt := 29) dX6_meeting_20 (by decide) (by omega) (fun c20 => ?_) (fun c20 => ?_)
        · refine ev_iconst dX6_meeting_29 ?_
          refine ev_ior dX6_meeting_30 bt_or0 ?_
          refine ev_istore_n dX6_meeting_31 (by decide) rfl ?_
          refine ev_iinc dX6_meeting_32 rfl (by decide) rfl ?_
          refine ev_goto (tgt := 4) dX6_meeting_35 (by decide) ?_
          have e : stf f l = stf f (l + 1) := by rw [stf_s2, if_neg (by rw [hfv, decide_eq_true_eq]; omega)]; omega
          rw [e]
          exact ih (l + 1) (by omega)
        · refine ev_iconst dX6_meeting_23 ?_
          refine ev_iload_n dX6_meeting_24 rfl ?_
          refine ev_ishl dX6_meeting_25 (bt_shl (by omega)) ?_
          refine ev_goto (tgt := 30) dX6_meeting_26 (by decide) ?_
          refine ev_ior dX6_meeting_30 (bt_or (n := l) (by omega) (by omega)) ?_
          refine ev_istore_n dX6_meeting_31 (by decide) rfl ?_
          refine ev_iinc dX6_meeting_32 rfl (by decide) rfl ?_
          refine ev_goto (tgt := 4) dX6_meeting_35 (by decide) ?_
          have e : stf f l + pw l = stf f (l + 1) := by rw [stf_s2, if_pos (by rw [hfv, decide_eq_true_eq]; omega)]
          rw [e]
          exact ih (l + 1) (by omega)
  refine ev_iconst dX6_meeting_0 ?_
  refine ev_istore_n dX6_meeting_1 (by decide) rfl ?_
  refine ev_iconst dX6_meeting_2 ?_
  refine ev_istore_n dX6_meeting_3 (by decide) rfl ?_
  exact loop ns 0 (by omega)
theorem c_X6_now {b : ev_B} {σ : ev_M} {w : Int} (H : okP (wr (σ 47))) (ha : σ 46 6 = 0) (h1 : (-2147483648 ≤ w ∧ w < 2147483648)) : Cl b mX6_now [vR 46, vI w] σ (RP σ (sc_now (prj σ) w)) := by
  refine ev_enter okX6_now.1 (Nat.le_of_ble_eq_true rfl) ?_
  unfold sc_now
  rw [prj_1]
  refine ev_iload_n dX6_now_0 rfl ?_
  -- switch 1
  by_cases hw : 0 ≤ w ∧ w ≤ 5
  · rw [if_pos hw]
    rcases (show w = 0 ∨ w = 1 ∨ w = 2 ∨ w = 3 ∨ w = 4 ∨ w = 5 by omega) with rfl | rfl | rfl | rfl | rfl | rfl
    · refine ev_tableIn (off := 39) (tgt := 40) dX6_now_1 (by omega) (by omega) (by omega) (by decide) (by decide) ?_
      refine ev_aload_n dX6_now_40 rfl ?_
      refine ev_getr 0 dX6_now_41 rfl rfl flX6_7 iwX6 (by decide) rfl ?_
      refine ev_iconst dX6_now_44 ?_
      refine ev_iload_n dX6_now_45 rfl ?_
      refine ev_iadd dX6_now_46 ?_
      refine ev_iald dX6_now_47 rfl (by omega) ?_
      refine ev_iret dX6_now_48 rfl rfl ?_
      exact RP_id ha
    · refine ev_tableIn (off := 39) (tgt := 40) dX6_now_1 (by omega) (by omega) (by omega) (by decide) (by decide) ?_
      refine ev_aload_n dX6_now_40 rfl ?_
      refine ev_getr 0 dX6_now_41 rfl rfl flX6_7 iwX6 (by decide) rfl ?_
      refine ev_iconst dX6_now_44 ?_
      refine ev_iload_n dX6_now_45 rfl ?_
      refine ev_iadd dX6_now_46 ?_
      refine ev_iald dX6_now_47 rfl (by omega) ?_
      refine ev_iret dX6_now_48 rfl rfl ?_
      exact RP_id ha
    · refine ev_tableIn (off := 48) (tgt := 49) dX6_now_1 (by omega) (by omega) (by omega) (by decide) (by decide) ?_
      refine ev_aload_n dX6_now_49 rfl ?_
      refine ev_V1 c_X6_wheatAll okX6_wheatAll dX6_now_50 mlX6_172 rfl rfl ⟨by decide, by decide⟩ rfl (Nat.le_of_ble_eq_true rfl) ?_
      refine ev_iret dX6_now_53 rfl rfl ?_
      exact RP_id ha
    · refine ev_tableIn (off := 53) (tgt := 54) dX6_now_1 (by omega) (by omega) (by omega) (by decide) (by decide) ?_
      refine ev_aload_n dX6_now_54 rfl ?_
      refine ev_V1 (c_X6_fees H ha) okX6_fees dX6_now_55 mlX6_175 rfl rfl ⟨by decide, by decide⟩ rfl (Nat.le_of_ble_eq_true rfl) ?_
      refine ev_iret dX6_now_58 rfl rfl ?_
      exact RP_id ha
    · refine ev_tableIn (off := 58) (tgt := 59) dX6_now_1 (by omega) (by omega) (by omega) (by decide) (by decide) ?_
      refine ev_aload_n dX6_now_59 rfl ?_
      refine ev_V1 (c_X6_feared H ha) okX6_feared dX6_now_60 mlX6_178 rfl rfl ⟨by decide, by decide⟩ rfl (Nat.le_of_ble_eq_true rfl) ?_
      refine ev_iret dX6_now_63 rfl rfl ?_
      exact RP_id ha
    · refine ev_tableIn (off := 63) (tgt := 64) dX6_now_1 (by omega) (by omega) (by omega) (by decide) (by decide) ?_
      refine ev_aload_n dX6_now_64 rfl ?_
      refine ev_V1 (c_X6_meeting H ha) okX6_meeting dX6_now_65 mlX6_181 rfl rfl ⟨by decide, by decide⟩ rfl (Nat.le_of_ble_eq_true rfl) ?_
      refine ev_iret dX6_now_68 rfl rfl ?_
      exact RP_id ha
  · rw [if_neg hw]
    refine ev_tableOut (tgt := 69) dX6_now_1 (by omega) (by omega) (by decide) ?_
    refine ev_aload_n dX6_now_69 rfl ?_
    refine ev_ldc (z := -1000000001) dX6_now_70 kcX6_50 (by decide) ?_
    refine ev_V1 (c_X6_finds (by omega)) okX6_finds dX6_now_72 mlX6_101 rfl rfl ⟨by decide, by decide⟩ rfl (Nat.le_of_ble_eq_true rfl) ?_
    refine ev_iret dX6_now_75 rfl rfl ?_
    exact RP_fnd ha
