/-! the model's calls on one place -/
theorem c_X6_wheat {b : ev_B} {σ : ev_M} {c v : Int} (H : okP (wr (σ 47))) (ha : σ 46 6 = 0) (h1 : (-2147483648 ≤ c ∧ c < 2147483648)) (h2 : (-2147483648 ≤ v ∧ v < 2147483648)) : Cl b mX6_wheat [vR 46, vI c, vI v] σ (RP σ (sc_wheat (prj σ) c v)) := by
  refine ev_enter okX6_wheat.1 (Nat.le_of_ble_eq_true rfl) ?_
  unfold sc_wheat
  refine ev_iload_n dX6_wheat_0 rfl ?_
  refine ev_Sbeq (tgt := 30) (c_X6_isCell (by omega)) okX6_isCell dX6_wheat_1 mlX6_93 ⟨by decide, by decide⟩ rfl (Nat.le_of_ble_eq_true rfl) dX6_wheat_4 (by decide) (fun c1 => ?_) (fun c1 => ?_)
  · rw [if_neg (by omega)]
    refine ev_aload_n dX6_wheat_30 rfl ?_
    refine ev_ldc (z := -1000000001) dX6_wheat_31 kcX6_50 (by decide) ?_
    refine ev_V1 (c_X6_finds (by omega)) okX6_finds dX6_wheat_33 mlX6_101 rfl rfl ⟨by decide, by decide⟩ rfl (Nat.le_of_ble_eq_true rfl) ?_
    refine ev_iret dX6_wheat_36 rfl rfl ?_
    exact RP_fnd ha
  · refine ev_iload_n dX6_wheat_7 rfl ?_
    refine ev_i2l dX6_wheat_8 (by omega) ?_
    refine ev_lconst (z := 0) dX6_wheat_9 rfl ?_
    refine ev_ldc2 (z := 99) dX6_wheat_10 klX6_96 (by decide) ?_
    refine ev_Sbeq (tgt := 30) (c_X6_in (by omega) (by omega) (by omega)) okX6_in dX6_wheat_13 mlX6_53 ⟨by decide, by decide⟩ rfl (Nat.le_of_ble_eq_true rfl) dX6_wheat_16 (by decide) (fun c13 => ?_) (fun c13 => ?_)
    · rw [if_neg (by omega)]
      refine ev_aload_n dX6_wheat_30 rfl ?_
      refine ev_ldc (z := -1000000001) dX6_wheat_31 kcX6_50 (by decide) ?_
      refine ev_V1 (c_X6_finds (by omega)) okX6_finds dX6_wheat_33 mlX6_101 rfl rfl ⟨by decide, by decide⟩ rfl (Nat.le_of_ble_eq_true rfl) ?_
      refine ev_iret dX6_wheat_36 rfl rfl ?_
      exact RP_fnd ha
    · rw [if_pos (by omega)]
      refine ev_aload_n dX6_wheat_19 rfl ?_
      refine ev_iconst dX6_wheat_20 ?_
      refine ev_iload_n dX6_wheat_21 rfl ?_
      refine ev_iadd dX6_wheat_22 ?_
      refine ev_iload_n dX6_wheat_23 rfl ?_
      refine ev_V1 (c_X6_becomes (by omega)) okX6_becomes dX6_wheat_24 mlX6_98 rfl rfl ⟨by decide, by decide⟩ rfl (Nat.le_of_ble_eq_true rfl) ?_
      refine ev_goto (tgt := 36) dX6_wheat_27 (by decide) ?_
      refine ev_iret dX6_wheat_36 rfl rfl ?_
      exact RP_up ha (by omega) (wr_up1 H (by omega))
theorem wr_up01 {f : Int → Int} {v : Int} : eqP (mup (wr f) 0 1 v) (wr (upw f 3 v)) := by
  have e : ∀ i : Int, i ≠ 3 → upw f 3 v i = f i := fun i hi => upw_ne hi
  have e3 : upw f 3 v 3 = v := upw_at
  refine ⟨e3.symm, (e 2 (by omega)).symm, (e 0 (by omega)).symm, (e 1 (by omega)).symm, fun x hx => (e (4 + x) (by omega)).symm, fun x hx => ?_, fun x hx => ?_⟩
  · exact ⟨(e (52 + 4 * x + 0) (by omega)).symm, (e (52 + 4 * x + 1) (by omega)).symm, (e (52 + 4 * x + 2) (by omega)).symm, (e (52 + 4 * x + 3) (by omega)).symm⟩
  · exact ⟨(e (76 + 3 * x + 0) (by omega)).symm, (e (76 + 3 * x + 1) (by omega)).symm, (e (76 + 3 * x + 2) (by omega)).symm⟩
theorem c_X6_crows {b : ev_B} {σ : ev_M} {v : Int} (ha : σ 46 6 = 0) (h2 : (-2147483648 ≤ v ∧ v < 2147483648)) : Cl b mX6_crows [vR 46, vI v] σ (RP σ (sc_crows (prj σ) v)) := by
  refine ev_enter okX6_crows.1 (Nat.le_of_ble_eq_true rfl) ?_
  unfold sc_crows
  refine ev_iload_n dX6_crows_0 rfl ?_
  refine ev_i2l dX6_crows_1 (by omega) ?_
  refine ev_lconst (z := 0) dX6_crows_2 rfl ?_
  refine ev_ldc2 (z := 20) dX6_crows_3 klX6_112 (by decide) ?_
  refine ev_Sbeq (tgt := 21) (c_X6_in (by omega) (by omega) (by omega)) okX6_in dX6_crows_6 mlX6_53 ⟨by decide, by decide⟩ rfl (Nat.le_of_ble_eq_true rfl) dX6_crows_9 (by decide) (fun c6 => ?_) (fun c6 => ?_)
  · rw [if_neg (by omega)]
    refine ev_aload_n dX6_crows_21 rfl ?_
    refine ev_ldc (z := -1000000001) dX6_crows_22 kcX6_50 (by decide) ?_
    refine ev_V1 (c_X6_finds (by omega)) okX6_finds dX6_crows_24 mlX6_101 rfl rfl ⟨by decide, by decide⟩ rfl (Nat.le_of_ble_eq_true rfl) ?_
    refine ev_iret dX6_crows_27 rfl rfl ?_
    exact RP_fnd ha
  · rw [if_pos (by omega)]
    refine ev_aload_n dX6_crows_12 rfl ?_
    refine ev_iconst dX6_crows_13 ?_
    refine ev_iload_n dX6_crows_14 rfl ?_
    refine ev_V1 (c_X6_becomes (by omega)) okX6_becomes dX6_crows_15 mlX6_98 rfl rfl ⟨by decide, by decide⟩ rfl (Nat.le_of_ble_eq_true rfl) ?_
    refine ev_goto (tgt := 27) dX6_crows_18 (by decide) ?_
    refine ev_iret dX6_crows_27 rfl rfl ?_
    exact RP_up ha (by omega) wr_up01
theorem c_X6_cell {b : ev_B} {σ : ev_M} {c w : Int} (H : okP (wr (σ 47))) (ha : σ 46 6 = 0) (h1 : (-2147483648 ≤ c ∧ c < 2147483648)) (h2 : (-2147483648 ≤ w ∧ w < 2147483648)) : Cl b mX6_cell [vR 46, vI c, vI w] σ (RP σ (sc_cell (prj σ) c w)) := by
  refine ev_enter okX6_cell.1 (Nat.le_of_ble_eq_true rfl) ?_
  unfold sc_cell
  rw [prj_1]
  refine ev_iload_n dX6_cell_0 rfl ?_
  refine ev_Sbeq (tgt := 19) (c_X6_isCell (by omega)) okX6_isCell dX6_cell_1 mlX6_93 ⟨by decide, by decide⟩ rfl (Nat.le_of_ble_eq_true rfl) dX6_cell_4 (by decide) (fun c1 => ?_) (fun c1 => ?_)
  · rw [if_neg (by omega)]
    refine ev_aload_n dX6_cell_19 rfl ?_
    refine ev_ldc (z := -1000000001) dX6_cell_20 kcX6_50 (by decide) ?_
    refine ev_V1 (c_X6_finds (by omega)) okX6_finds dX6_cell_22 mlX6_101 rfl rfl ⟨by decide, by decide⟩ rfl (Nat.le_of_ble_eq_true rfl) ?_
    refine ev_iret dX6_cell_25 rfl rfl ?_
    exact RP_fnd ha
  · refine ev_iload_n dX6_cell_7 rfl ?_
    refine ev_i2l dX6_cell_8 (by omega) ?_
    refine ev_lconst (z := 0) dX6_cell_9 rfl ?_
    refine ev_ldc2 (z := 2) dX6_cell_10 klX6_104 (by decide) ?_
    refine ev_Sbne (tgt := 26) (c_X6_in (by omega) (by omega) (by omega)) okX6_in dX6_cell_13 mlX6_53 ⟨by decide, by decide⟩ rfl (Nat.le_of_ble_eq_true rfl) dX6_cell_16 (by decide) (fun c13 => ?_) (fun c13 => ?_)
    · rw [if_pos (by omega)]
      refine ev_iload_n dX6_cell_26 rfl ?_
      refine ev_if_ne (tgt := 41) dX6_cell_27 (by decide) (by omega) (fun c27 => ?_) (fun c27 => ?_)
      · rw [if_neg c27]
        refine ev_iload_n dX6_cell_41 rfl ?_
        refine ev_iconst dX6_cell_42 ?_
        refine ev_icmp_ne (tgt := 58) dX6_cell_43 (by decide) (by omega) (by omega) (fun c43 => ?_) (fun c43 => ?_)
        · rw [if_neg c43]
          refine ev_aload_n dX6_cell_58 rfl ?_
          refine ev_iload_n dX6_cell_59 rfl ?_
          refine ev_V1 (c_X6_thoseAt H (by omega)) okX6_thoseAt dX6_cell_60 mlX6_109 rfl rfl ⟨by decide, by decide⟩ rfl (Nat.le_of_ble_eq_true rfl) ?_
          refine ev_iret dX6_cell_63 rfl rfl ?_
          exact RP_id ha
        · rw [if_pos c43]
          refine ev_sipush dX6_cell_46 (by decide) ?_
          refine ev_aload_n dX6_cell_49 rfl ?_
          refine ev_iload_n dX6_cell_50 rfl ?_
          refine ev_V1 (c_X6_fear H (by omega) (by omega)) okX6_fear dX6_cell_51 mlX6_106 rfl rfl ⟨by decide, by decide⟩ rfl (Nat.le_of_ble_eq_true rfl) ?_
          refine ev_iadd dX6_cell_54 ?_
          refine ev_goto (tgt := 63) dX6_cell_55 (by decide) ?_
          refine ev_iret dX6_cell_63 rfl rfl ?_
          rw [ha, prA_0]
          exact RP_id ha
      · rw [if_pos c27]
        refine ev_aload_n dX6_cell_30 rfl ?_
        refine ev_getr 0 dX6_cell_31 rfl rfl flX6_7 iwX6 (by decide) rfl ?_
        refine ev_iconst dX6_cell_34 ?_
        refine ev_iload_n dX6_cell_35 rfl ?_
        refine ev_iadd dX6_cell_36 ?_
        refine ev_iald dX6_cell_37 rfl (by omega) ?_
        refine ev_goto (tgt := 63) dX6_cell_38 (by decide) ?_
        refine ev_iret dX6_cell_63 rfl rfl ?_
        exact RP_id ha
    · rw [if_neg (by omega)]
      refine ev_aload_n dX6_cell_19 rfl ?_
      refine ev_ldc (z := -1000000001) dX6_cell_20 kcX6_50 (by decide) ?_
      refine ev_V1 (c_X6_finds (by omega)) okX6_finds dX6_cell_22 mlX6_101 rfl rfl ⟨by decide, by decide⟩ rfl (Nat.le_of_ble_eq_true rfl) ?_
      refine ev_iret dX6_cell_25 rfl rfl ?_
      exact RP_fnd ha
theorem RP_S {σ τ : ev_M} {A : ev_M} {v : Int} (h0 : τ 46 6 = 0) (hA : ∀ a : Nat, a = 0 ∨ 9 < a → A a = prj σ a) (h : eqP (wn A 1) (wr (τ 47))) (ht : ∀ a : Nat, a ≠ 47 → a < 46 ∨ a = 48 ∨ a = 51 ∨ (55 ≤ a ∧ a ≤ 58) → τ a = σ a) (h5 : τ 46 5 = σ 46 5) (h11 : τ 46 11 = σ 46 11) : RP σ (v, A) (some (vI v)) τ :=
  ⟨rfl, prj_47 h hA (fun a h1 h2 => ht a h1 (by omega)) h5 h11, fun a h => ht a (by omega) (by omega), h0⟩
def adsR (f : Int → Int) (k : Int) : Int → Int := upw (upw (upw (upw (upw f (52 + 4 * f 0 + 0) k) (52 + 4 * f 0 + 1) 10) (52 + 4 * f 0 + 2) 5) (52 + 4 * f 0 + 3) (f 2)) 0 (f 0 + 1)
theorem eqP_adsR {f : Int → Int} {k : Int} (H : okP (wr f)) (h6 : f 0 < 6) : eqP (addS (wr f) 0 k) (wr (adsR f k)) := by
  have h0 := okr0 H
  have u : ∀ i : Int, i ≠ 0 → (i < 52 + 4 * f 0 ∨ 56 + 4 * f 0 ≤ i) → adsR f k i = f i := fun i hi hj => by
    unfold adsR; rw [upw_ne hi, upw_ne (by omega), upw_ne (by omega), upw_ne (by omega), upw_ne (by omega)]
  have u0 : adsR f k 0 = f 0 + 1 := by unfold adsR; rw [upw_at]
  have v0 : adsR f k (52 + 4 * f 0 + 0) = k := by unfold adsR; rw [upw_ne (by omega), upw_ne (by omega), upw_ne (by omega), upw_ne (by omega), upw_at]
  have v1 : adsR f k (52 + 4 * f 0 + 1) = 10 := by unfold adsR; rw [upw_ne (by omega), upw_ne (by omega), upw_ne (by omega), upw_at]
  have v2 : adsR f k (52 + 4 * f 0 + 2) = 5 := by unfold adsR; rw [upw_ne (by omega), upw_ne (by omega), upw_at]
  have v3 : adsR f k (52 + 4 * f 0 + 3) = f 2 := by unfold adsR; rw [upw_ne (by omega), upw_at]
  generalize adsR f k = g at *
  have e3 : wr f 0 3 = f 0 := rfl
  have e2 : wr f 0 2 = f 2 := rfl
  refine ⟨(u 3 (by omega) (by omega)).symm, (u 2 (by omega) (by omega)).symm, u0.symm, (u 1 (by omega) (by omega)).symm, fun x hx => (u (4 + x) (by omega) (by omega)).symm, fun x hx => ?_, fun x hx => ?_⟩
  · have hx2 : 0 ≤ x ∧ x < f 0 + 1 := by rw [← u0]; exact hx
    by_cases e : x = f 0
    · subst e
      refine ⟨?_, ?_, ?_, ?_⟩
      · show addS (wr f) 0 k 2 (f 0) = g (52 + 4 * f 0 + 0); rw [v0]; simp [addS, mup, e3]
      · show addS (wr f) 0 k 3 (f 0) = g (52 + 4 * f 0 + 1); rw [v1]; simp [addS, mup, e3]
      · show addS (wr f) 0 k 4 (f 0) = g (52 + 4 * f 0 + 2); rw [v2]; simp [addS, mup, e3]
      · show addS (wr f) 0 k 5 (f 0) = g (52 + 4 * f 0 + 3); rw [v3]; simp [addS, mup, e3, e2]
    · refine ⟨?_, ?_, ?_, ?_⟩
      · show addS (wr f) 0 k 2 x = g (52 + 4 * x + 0); rw [u _ (by omega) (by omega)]; simp [addS, mup, e3, e, wr]
      · show addS (wr f) 0 k 3 x = g (52 + 4 * x + 1); rw [u _ (by omega) (by omega)]; simp [addS, mup, e3, e, wr]
      · show addS (wr f) 0 k 4 x = g (52 + 4 * x + 2); rw [u _ (by omega) (by omega)]; simp [addS, mup, e3, e, wr]
      · show addS (wr f) 0 k 5 x = g (52 + 4 * x + 3); rw [u _ (by omega) (by omega)]; simp [addS, mup, e3, e, wr]
  · have hx2 : 0 ≤ x ∧ x < f 1 := by rw [← u 1 (by omega) (by omega)]; exact hx
    exact ⟨(u (76 + 3 * x + 0) (by omega) (by omega)).symm, (u (76 + 3 * x + 1) (by omega) (by omega)).symm, (u (76 + 3 * x + 2) (by omega) (by omega)).symm⟩
def putR (f : Int → Int) (k c : Int) : Int → Int := upw (upw (upw (upw f (76 + 3 * f 1 + 0) c) (76 + 3 * f 1 + 1) k) (76 + 3 * f 1 + 2) 0) 1 (f 1 + 1)
theorem eqP_putR {f : Int → Int} {k c : Int} (H : okP (wr f)) (h6 : f 1 < 8) : eqP (addL (wr f) 0 k c) (wr (putR f k c)) := by
  have h0 := okr0 H
  have u : ∀ i : Int, i ≠ 1 → (i < 76 + 3 * f 1 ∨ 79 + 3 * f 1 ≤ i) → putR f k c i = f i := fun i hi hj => by
    unfold putR; rw [upw_ne hi, upw_ne (by omega), upw_ne (by omega), upw_ne (by omega)]
  have u1 : putR f k c 1 = f 1 + 1 := by unfold putR; rw [upw_at]
  have v0 : putR f k c (76 + 3 * f 1 + 0) = c := by unfold putR; rw [upw_ne (by omega), upw_ne (by omega), upw_ne (by omega), upw_at]
  have v1 : putR f k c (76 + 3 * f 1 + 1) = k := by unfold putR; rw [upw_ne (by omega), upw_ne (by omega), upw_at]
  have v2 : putR f k c (76 + 3 * f 1 + 2) = 0 := by unfold putR; rw [upw_ne (by omega), upw_at]
  generalize putR f k c = g at *
  have e8 : wr f 0 8 = f 1 := rfl
  refine ⟨(u 3 (by omega) (by omega)).symm, (u 2 (by omega) (by omega)).symm, (u 0 (by omega) (by omega)).symm, u1.symm, fun x hx => (u (4 + x) (by omega) (by omega)).symm, fun x hx => ?_, fun x hx => ?_⟩
  · have hx2 : 0 ≤ x ∧ x < f 0 := by rw [← u 0 (by omega) (by omega)]; exact hx
    exact ⟨(u (52 + 4 * x + 0) (by omega) (by omega)).symm, (u (52 + 4 * x + 1) (by omega) (by omega)).symm, (u (52 + 4 * x + 2) (by omega) (by omega)).symm, (u (52 + 4 * x + 3) (by omega) (by omega)).symm⟩
  · have hx2 : 0 ≤ x ∧ x < f 1 + 1 := by rw [← u1]; exact hx
    by_cases e : x = f 1
    · subst e
      refine ⟨?_, ?_, ?_⟩
      · show addL (wr f) 0 k c 6 (f 1) = g (76 + 3 * f 1 + 0); rw [v0]; simp [addL, mup, e8]
      · show addL (wr f) 0 k c 7 (f 1) = g (76 + 3 * f 1 + 1); rw [v1]; simp [addL, mup, e8]
      · show addL (wr f) 0 k c 8 (f 1) = g (76 + 3 * f 1 + 2); rw [v2]; simp [addL, mup, e8]
    · refine ⟨?_, ?_, ?_⟩
      · show addL (wr f) 0 k c 6 x = g (76 + 3 * x + 0); rw [u _ (by omega) (by omega)]; simp [addL, mup, e8, e, wr]
      · show addL (wr f) 0 k c 7 x = g (76 + 3 * x + 1); rw [u _ (by omega) (by omega)]; simp [addL, mup, e8, e, wr]
      · show addL (wr f) 0 k c 8 x = g (76 + 3 * x + 2); rw [u _ (by omega) (by omega)]; simp [addL, mup, e8, e, wr]
def srw (σ : ev_M) (f : Int → Int) : ev_M := srow σ 47 f
theorem c_X6_adds {b : ev_B} {σ : ev_M} {k : Int} (h : 0 ≤ σ 47 0 ∧ σ 47 0 < 6) : CF b mX6_adds [vR 46, vI k] σ (some (vI (σ 47 0))) (srow σ 47 (adsR (σ 47) k)) := by
  refine ev_enter okX6_adds.1 (Nat.le_of_ble_eq_true rfl) ?_
  refine ev_aload_n dX6_adds_0 rfl ?_
  refine ev_getr 0 dX6_adds_1 rfl rfl flX6_7 iwX6 (by decide) rfl ?_
  refine ev_iconst dX6_adds_4 ?_
  refine ev_iald dX6_adds_5 rfl (by omega) ?_
  refine ev_istore_n dX6_adds_6 (by decide) rfl ?_
  refine ev_aload_n dX6_adds_7 rfl ?_
  refine ev_getr 0 dX6_adds_8 rfl rfl flX6_7 iwX6 (by decide) rfl ?_
  refine ev_iload_n dX6_adds_11 rfl ?_
  refine ev_iconst dX6_adds_12 ?_
  refine ev_S1 c_X6_spotOf okX6_spotOf dX6_adds_13 mlX6_59 ⟨by decide, by decide⟩ rfl (Nat.le_of_ble_eq_true rfl) ?_
  refine ev_iload_n dX6_adds_16 rfl ?_
  refine ev_iast dX6_adds_17 rfl (by omega) ?_
  refine ev_aload_n dX6_adds_18 rfl ?_
  refine ev_getr 0 dX6_adds_19 rfl rfl flX6_7 iwX6 (by decide) rfl ?_
  refine ev_iload_n dX6_adds_22 rfl ?_
  refine ev_iconst dX6_adds_23 ?_
  refine ev_S1 c_X6_spotOf okX6_spotOf dX6_adds_24 mlX6_59 ⟨by decide, by decide⟩ rfl (Nat.le_of_ble_eq_true rfl) ?_
  refine ev_bipush dX6_adds_27 (by decide) ?_
  refine ev_iast dX6_adds_29 rfl (by omega) ?_
  refine ev_aload_n dX6_adds_30 rfl ?_
  refine ev_getr 0 dX6_adds_31 rfl rfl flX6_7 iwX6 (by decide) rfl ?_
  refine ev_iload_n dX6_adds_34 rfl ?_
  refine ev_iconst dX6_adds_35 ?_
  refine ev_S1 c_X6_spotOf okX6_spotOf dX6_adds_36 mlX6_59 ⟨by decide, by decide⟩ rfl (Nat.le_of_ble_eq_true rfl) ?_
  refine ev_iconst dX6_adds_39 ?_
  refine ev_iast dX6_adds_40 rfl (by omega) ?_
  refine ev_aload_n dX6_adds_41 rfl ?_
  refine ev_getr 0 dX6_adds_42 rfl rfl flX6_7 iwX6 (by decide) rfl ?_
  refine ev_iload_n dX6_adds_45 rfl ?_
  refine ev_iconst dX6_adds_46 ?_
  refine ev_S1 c_X6_spotOf okX6_spotOf dX6_adds_47 mlX6_59 ⟨by decide, by decide⟩ rfl (Nat.le_of_ble_eq_true rfl) ?_
  refine ev_aload_n dX6_adds_50 rfl ?_
  refine ev_getr 0 dX6_adds_51 rfl rfl flX6_7 iwX6 (by decide) rfl ?_
  refine ev_iconst dX6_adds_54 ?_
  refine ev_iald dX6_adds_55 rfl (by omega) ?_
  refine ev_iast dX6_adds_56 rfl (by omega) ?_
  have e2 : mup (mup (mup σ 47 (52 + 4 * σ 47 0 + 0) k) 47 (52 + 4 * σ 47 0 + 1) 10) 47 (52 + 4 * σ 47 0 + 2) 5 47 2 = σ 47 2 := by
    rw [mup_off (by omega), mup_off (by omega), mup_off (by omega)]
  rw [e2]
  refine ev_aload_n dX6_adds_57 rfl ?_
  refine ev_getr 0 dX6_adds_58 rfl rfl flX6_7 iwX6 (by decide) rfl ?_
  refine ev_iconst dX6_adds_61 ?_
  refine ev_dup2 dX6_adds_62 rfl rfl ?_
  refine ev_iald dX6_adds_63 rfl (by omega) ?_
  have e0 : mup (mup (mup (mup σ 47 (52 + 4 * σ 47 0 + 0) k) 47 (52 + 4 * σ 47 0 + 1) 10) 47 (52 + 4 * σ 47 0 + 2) 5) 47 (52 + 4 * σ 47 0 + 3) (σ 47 2) 47 0 = σ 47 0 := by
    rw [mup_off (by omega), mup_off (by omega), mup_off (by omega), mup_off (by omega)]
  rw [e0]
  refine ev_iconst dX6_adds_64 ?_
  refine ev_iadd dX6_adds_65 ?_
  refine ev_iast dX6_adds_66 rfl (by omega) ?_
  refine ev_iload_n dX6_adds_67 rfl ?_
  refine ev_iret dX6_adds_68 rfl rfl ?_
  refine ⟨rfl, ?_⟩
  funext a i
  by_cases e : a = 47
  · subst e
    rw [srow_at, mup_row, mup_row, mup_row, mup_row, mup_row]
    rfl
  · rw [srow_ne e, mup_ne e, mup_ne e, mup_ne e, mup_ne e, mup_ne e]
theorem c_X6_puts {b : ev_B} {σ : ev_M} {k c : Int} (h : 0 ≤ σ 47 1 ∧ σ 47 1 < 8) : CF b mX6_puts [vR 46, vI k, vI c] σ (some (vI (σ 47 1))) (srow σ 47 (putR (σ 47) k c)) := by
  refine ev_enter okX6_puts.1 (Nat.le_of_ble_eq_true rfl) ?_
  refine ev_aload_n dX6_puts_0 rfl ?_
  refine ev_getr 0 dX6_puts_1 rfl rfl flX6_7 iwX6 (by decide) rfl ?_
  refine ev_iconst dX6_puts_4 ?_
  refine ev_iald dX6_puts_5 rfl (by omega) ?_
  refine ev_istore_n dX6_puts_6 (by decide) rfl ?_
  refine ev_aload_n dX6_puts_7 rfl ?_
  refine ev_getr 0 dX6_puts_8 rfl rfl flX6_7 iwX6 (by decide) rfl ?_
  refine ev_iload_n dX6_puts_11 rfl ?_
  refine ev_iconst dX6_puts_12 ?_
  refine ev_S1 c_X6_placeOf okX6_placeOf dX6_puts_13 mlX6_63 ⟨by decide, by decide⟩ rfl (Nat.le_of_ble_eq_true rfl) ?_
  refine ev_iload_n dX6_puts_16 rfl ?_
  refine ev_iast dX6_puts_17 rfl (by omega) ?_
  refine ev_aload_n dX6_puts_18 rfl ?_
  refine ev_getr 0 dX6_puts_19 rfl rfl flX6_7 iwX6 (by decide) rfl ?_
  refine ev_iload_n dX6_puts_22 rfl ?_
  refine ev_iconst dX6_puts_23 ?_
  refine ev_S1 c_X6_placeOf okX6_placeOf dX6_puts_24 mlX6_63 ⟨by decide, by decide⟩ rfl (Nat.le_of_ble_eq_true rfl) ?_
  refine ev_iload_n dX6_puts_27 rfl ?_
  refine ev_iast dX6_puts_28 rfl (by omega) ?_
  refine ev_aload_n dX6_puts_29 rfl ?_
  refine ev_getr 0 dX6_puts_30 rfl rfl flX6_7 iwX6 (by decide) rfl ?_
  refine ev_iload_n dX6_puts_33 rfl ?_
  refine ev_iconst dX6_puts_34 ?_
  refine ev_S1 c_X6_placeOf okX6_placeOf dX6_puts_35 mlX6_63 ⟨by decide, by decide⟩ rfl (Nat.le_of_ble_eq_true rfl) ?_
  refine ev_iconst dX6_puts_38 ?_
  refine ev_iast dX6_puts_39 rfl (by omega) ?_
  refine ev_aload_n dX6_puts_40 rfl ?_
  refine ev_getr 0 dX6_puts_41 rfl rfl flX6_7 iwX6 (by decide) rfl ?_
  refine ev_iconst dX6_puts_44 ?_
  refine ev_dup2 dX6_puts_45 rfl rfl ?_
  refine ev_iald dX6_puts_46 rfl (by omega) ?_
  have e0 : mup (mup (mup σ 47 (76 + 3 * σ 47 1 + 0) c) 47 (76 + 3 * σ 47 1 + 1) k) 47 (76 + 3 * σ 47 1 + 2) 0 47 1 = σ 47 1 := by
    rw [mup_off (by omega), mup_off (by omega), mup_off (by omega)]
  rw [e0]
  refine ev_iconst dX6_puts_47 ?_
  refine ev_iadd dX6_puts_48 ?_
  refine ev_iast dX6_puts_49 rfl (by omega) ?_
  refine ev_iload_n dX6_puts_50 rfl ?_
  refine ev_iret dX6_puts_51 rfl rfl ?_
  refine ⟨rfl, ?_⟩
  funext a i
  by_cases e : a = 47
  · subst e
    rw [srow_at, mup_row, mup_row, mup_row, mup_row]
    rfl
  · rw [srow_ne e, mup_ne e, mup_ne e, mup_ne e, mup_ne e]
theorem RP_row {σ A : ev_M} {f : Int → Int} {v : Int} (h0 : σ 46 6 = 0) (hA : ∀ a : Nat, a = 0 ∨ 9 < a → A a = prj σ a) (h : eqP (wn A 1) (wr f)) : RP σ (v, A) (some (vI v)) (srow σ 47 f) :=
  RP_S (by rw [srow_ne (by decide)]; exact h0) hA (by rw [srow_at]; exact h) (fun a ha _ => srow_ne ha) (by rw [srow_ne (by decide)]) (by rw [srow_ne (by decide)])
theorem c_X6_sitter {b : ev_B} {σ : ev_M} {k : Int} (H : okP (wr (σ 47))) (ha : σ 46 6 = 0) (h1 : (-2147483648 ≤ k ∧ k < 2147483648)) : Cl b mX6_sitter [vR 46, vI k] σ (RP σ (sc_sitter (prj σ) k)) := by
  refine ev_enter okX6_sitter.1 (Nat.le_of_ble_eq_true rfl) ?_
  unfold sc_sitter
  have h0 := okr0 H
  have p13 : prj σ 1 3 = σ 47 0 := rfl
  refine ev_iload_n dX6_sitter_0 rfl ?_
  refine ev_Sbne (tgt := 14) (c_X6_isKind (by omega)) okX6_isKind dX6_sitter_1 mlX6_114 ⟨by decide, by decide⟩ rfl (Nat.le_of_ble_eq_true rfl) dX6_sitter_4 (by decide) (fun c1 => ?_) (fun c1 => ?_)
  · rw [if_pos (by omega)]
    refine ev_aload_n dX6_sitter_14 rfl ?_
    refine ev_getr 0 dX6_sitter_15 rfl rfl flX6_7 iwX6 (by decide) rfl ?_
    refine ev_iconst dX6_sitter_18 ?_
    refine ev_iald dX6_sitter_19 rfl (by omega) ?_
    refine ev_bipush dX6_sitter_20 (by decide) ?_
    refine ev_icmp_ne (tgt := 34) dX6_sitter_22 (by decide) (by omega) (by omega) (fun c22 => ?_) (fun c22 => ?_)
    · rw [if_pos (by omega)]
      refine ev_aload_n dX6_sitter_34 rfl ?_
      refine ev_iload_n dX6_sitter_35 rfl ?_
      refine ev_V1 (c_X6_adds (by omega)) okX6_adds dX6_sitter_36 mlX6_118 rfl rfl ⟨by decide, by decide⟩ rfl (Nat.le_of_ble_eq_true rfl) ?_
      refine ev_iret dX6_sitter_39 rfl rfl ?_
      refine RP_row ha (fun a hx => by unfold addS; rw [mup_ne (by omega), mup_ne (by omega), mup_ne (by omega), mup_ne (by omega), mup_ne (by omega)]) ?_
      rw [wn_addS, prj_1]
      exact eqP_adsR H (by omega)
    · rw [if_neg (by omega)]
      refine ev_aload_n dX6_sitter_25 rfl ?_
      refine ev_ldc (z := -1000000002) dX6_sitter_26 kcX6_117 (by decide) ?_
      refine ev_V1 (c_X6_finds (by omega)) okX6_finds dX6_sitter_28 mlX6_101 rfl rfl ⟨by decide, by decide⟩ rfl (Nat.le_of_ble_eq_true rfl) ?_
      refine ev_goto (tgt := 39) dX6_sitter_31 (by decide) ?_
      refine ev_iret dX6_sitter_39 rfl rfl ?_
      exact RP_fnd ha
  · rw [if_neg (by omega)]
    refine ev_aload_n dX6_sitter_7 rfl ?_
    refine ev_ldc (z := -1000000001) dX6_sitter_8 kcX6_50 (by decide) ?_
    refine ev_V1 (c_X6_finds (by omega)) okX6_finds dX6_sitter_10 mlX6_101 rfl rfl ⟨by decide, by decide⟩ rfl (Nat.le_of_ble_eq_true rfl) ?_
    refine ev_iret dX6_sitter_13 rfl rfl ?_
    exact RP_fnd ha
theorem c_X6_likeness {b : ev_B} {σ : ev_M} {s c : Int} (H : okP (wr (σ 47))) (ha : σ 46 6 = 0) (h1 : (-2147483648 ≤ s ∧ s < 2147483648)) (h2 : (-2147483648 ≤ c ∧ c < 2147483648)) : Cl b mX6_likeness [vR 46, vI s, vI c] σ (RP σ (sc_likeness (prj σ) s c)) := by
  refine ev_enter okX6_likeness.1 (Nat.le_of_ble_eq_true rfl) ?_
  unfold sc_likeness
  have h0 := okr0 H
  have p13 : prj σ 1 3 = σ 47 0 := rfl
  have p18 : prj σ 1 8 = σ 47 1 := rfl
  refine ev_aload_n dX6_likeness_0 rfl ?_
  refine ev_iload_n dX6_likeness_1 rfl ?_
  refine ev_Vbeq (tgt := 15) (c_X6_isSitter (by omega) (by omega)) okX6_isSitter dX6_likeness_2 mlX6_125 rfl rfl ⟨by decide, by decide⟩ rfl (Nat.le_of_ble_eq_true rfl) dX6_likeness_5 (by decide) (fun c2 => ?_) (fun c2 => ?_)
  · rw [if_neg (by omega)]
    refine ev_aload_n dX6_likeness_15 rfl ?_
    refine ev_ldc (z := -1000000001) dX6_likeness_16 kcX6_50 (by decide) ?_
    refine ev_V1 (c_X6_finds (by omega)) okX6_finds dX6_likeness_18 mlX6_101 rfl rfl ⟨by decide, by decide⟩ rfl (Nat.le_of_ble_eq_true rfl) ?_
    refine ev_iret dX6_likeness_21 rfl rfl ?_
    exact RP_fnd ha
  · refine ev_iload_n dX6_likeness_8 rfl ?_
    refine ev_Sbne (tgt := 22) (c_X6_isCell (by omega)) okX6_isCell dX6_likeness_9 mlX6_93 ⟨by decide, by decide⟩ rfl (Nat.le_of_ble_eq_true rfl) dX6_likeness_12 (by decide) (fun c9 => ?_) (fun c9 => ?_)
    · rw [if_pos (by omega)]
      refine ev_aload_n dX6_likeness_22 rfl ?_
      refine ev_getr 0 dX6_likeness_23 rfl rfl flX6_7 iwX6 (by decide) rfl ?_
      refine ev_iconst dX6_likeness_26 ?_
      refine ev_iald dX6_likeness_27 rfl (by omega) ?_
      refine ev_bipush dX6_likeness_28 (by decide) ?_
      refine ev_icmp_ne (tgt := 42) dX6_likeness_30 (by decide) (by omega) (by omega) (fun c30 => ?_) (fun c30 => ?_)
      · rw [if_pos (by omega)]
        refine ev_aload_n dX6_likeness_42 rfl ?_
        refine ev_iload_n dX6_likeness_43 rfl ?_
        refine ev_iload_n dX6_likeness_44 rfl ?_
        refine ev_V1 (c_X6_puts (by omega)) okX6_puts dX6_likeness_45 mlX6_140 rfl rfl ⟨by decide, by decide⟩ rfl (Nat.le_of_ble_eq_true rfl) ?_
        refine ev_iret dX6_likeness_48 rfl rfl ?_
        refine RP_row ha (fun a hx => by unfold addL; rw [mup_ne (by omega), mup_ne (by omega), mup_ne (by omega), mup_ne (by omega)]) ?_
        rw [wn_addL, prj_1]
        exact eqP_putR H (by omega)
      · rw [if_neg (by omega)]
        refine ev_aload_n dX6_likeness_33 rfl ?_
        refine ev_ldc (z := -1000000002) dX6_likeness_34 kcX6_117 (by decide) ?_
        refine ev_V1 (c_X6_finds (by omega)) okX6_finds dX6_likeness_36 mlX6_101 rfl rfl ⟨by decide, by decide⟩ rfl (Nat.le_of_ble_eq_true rfl) ?_
        refine ev_goto (tgt := 48) dX6_likeness_39 (by decide) ?_
        refine ev_iret dX6_likeness_48 rfl rfl ?_
        exact RP_fnd ha
    · rw [if_neg (by omega)]
      refine ev_aload_n dX6_likeness_15 rfl ?_
      refine ev_ldc (z := -1000000001) dX6_likeness_16 kcX6_50 (by decide) ?_
      refine ev_V1 (c_X6_finds (by omega)) okX6_finds dX6_likeness_18 mlX6_101 rfl rfl ⟨by decide, by decide⟩ rfl (Nat.le_of_ble_eq_true rfl) ?_
      refine ev_iret dX6_likeness_21 rfl rfl ?_
      exact RP_fnd ha
