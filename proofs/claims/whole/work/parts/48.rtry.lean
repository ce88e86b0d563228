/-! the model tries, and takes back -/
def cpy (σ : ev_M) (a c : Nat) (n : Int) : ev_M := fun x i => if x = a ∧ 0 ≤ i ∧ i < n then σ c i else σ x i
theorem cpy_0 {σ : ev_M} {a c : Nat} : cpy σ a c 0 = σ := by funext x i; unfold cpy; rw [if_neg (by omega)]
theorem cpy_ne {σ : ev_M} {a c x : Nat} {n : Int} (h : x ≠ a) : cpy σ a c n x = σ x := by funext i; unfold cpy; rw [if_neg (fun w => h w.1)]
theorem cpy_s {σ : ev_M} {a c : Nat} {n : Int} (h : 0 ≤ n) : mup (cpy σ a c n) a n (σ c n) = cpy σ a c (n + 1) := by
  funext x i
  unfold mup cpy
  by_cases e : x = a ∧ i = n
  · rw [if_pos e, if_pos (by omega), e.2]
  · rw [if_neg e]
    by_cases w : x = a ∧ 0 ≤ i ∧ i < n
    · rw [if_pos w, if_pos (by omega)]
    · rw [if_neg w, if_neg (by omega)]
theorem cpy_at {σ : ev_M} {a c : Nat} {n : Int} : ∀ i : Int, 0 ≤ i ∧ i < n → cpy σ a c n a i = σ c i := fun i hi => by unfold cpy; rw [if_pos ⟨rfl, hi⟩]
theorem c_X6_saves {b : ev_B} {σ : ev_M} : CF b mX6_saves [vR 46] σ (none) (cpy σ 49 47 100) := by
  refine ev_enter okX6_saves.1 (Nat.le_of_ble_eq_true rfl) ?_
  have loop : ∀ (m i : Nat), i + m = 100 → Ev b mX6_saves 2 [(0, vR 46), (1, vI i)] [] (cpy σ 49 47 i) (fun r τ => r = none ∧ τ = cpy σ 49 47 100) := by
    intro m
    induction m with
    | zero =>
      intro i h
      refine ev_iload_n dX6_saves_2 rfl ?_
      refine ev_bipush dX6_saves_3 (by decide) ?_
      refine ev_icmp_ge (tgt := 26) dX6_saves_5 (by decide) (by omega) (by omega) (fun c5 => ?_) (fun c5 => ?_)
      · refine ev_vret dX6_saves_26 rfl ?_
        have e : (i : Int) = 100 := by omega
        rw [e]
        exact ⟨rfl, rfl⟩
      · exact absurd c5 (by omega)
    | succ m ih =>
      intro i h
      refine ev_iload_n dX6_saves_2 rfl ?_
      refine ev_bipush dX6_saves_3 (by decide) ?_
      refine ev_icmp_ge (tgt := 26) dX6_saves_5 (by decide) (by omega) (by omega) (fun c5 => ?_) (fun c5 => ?_)
      · exact absurd c5 (by omega)
      · refine ev_aload_n dX6_saves_8 rfl ?_
        refine ev_getr 2 dX6_saves_9 rfl rfl flX6_16 iwX6 (by decide) rfl ?_
        refine ev_iload_n dX6_saves_12 rfl ?_
        refine ev_aload_n dX6_saves_13 rfl ?_
        refine ev_getr 0 dX6_saves_14 rfl rfl flX6_7 iwX6 (by decide) rfl ?_
        refine ev_iload_n dX6_saves_17 rfl ?_
        refine ev_iald dX6_saves_18 rfl (by omega) ?_
        refine ev_iast dX6_saves_19 rfl (by omega) ?_
        refine ev_iinc dX6_saves_20 rfl (by decide) rfl ?_
        refine ev_goto (tgt := 2) dX6_saves_23 (by decide) ?_
        rw [cpy_ne (x := 47) (by decide), cpy_s (by omega)]
        exact ih (i + 1) (by omega)
  refine ev_iconst dX6_saves_0 ?_
  refine ev_istore_n dX6_saves_1 (by decide) rfl ?_
  have l := loop 100 0 (by omega)
  rw [show ((0 : Nat) : Int) = 0 from rfl, cpy_0] at l
  exact l
theorem c_X6_putsBack {b : ev_B} {σ : ev_M} : CF b mX6_putsBack [vR 46] σ (none) (cpy σ 47 49 100) := by
  refine ev_enter okX6_putsBack.1 (Nat.le_of_ble_eq_true rfl) ?_
  have loop : ∀ (m i : Nat), i + m = 100 → Ev b mX6_putsBack 2 [(0, vR 46), (1, vI i)] [] (cpy σ 47 49 i) (fun r τ => r = none ∧ τ = cpy σ 47 49 100) := by
    intro m
    induction m with
    | zero =>
      intro i h
      refine ev_iload_n dX6_putsBack_2 rfl ?_
      refine ev_bipush dX6_putsBack_3 (by decide) ?_
      refine ev_icmp_ge (tgt := 26) dX6_putsBack_5 (by decide) (by omega) (by omega) (fun c5 => ?_) (fun c5 => ?_)
      · refine ev_vret dX6_putsBack_26 rfl ?_
        have e : (i : Int) = 100 := by omega
        rw [e]
        exact ⟨rfl, rfl⟩
      · exact absurd c5 (by omega)
    | succ m ih =>
      intro i h
      refine ev_iload_n dX6_putsBack_2 rfl ?_
      refine ev_bipush dX6_putsBack_3 (by decide) ?_
      refine ev_icmp_ge (tgt := 26) dX6_putsBack_5 (by decide) (by omega) (by omega) (fun c5 => ?_) (fun c5 => ?_)
      · exact absurd c5 (by omega)
      · refine ev_aload_n dX6_putsBack_8 rfl ?_
        refine ev_getr 0 dX6_putsBack_9 rfl rfl flX6_7 iwX6 (by decide) rfl ?_
        refine ev_iload_n dX6_putsBack_12 rfl ?_
        refine ev_aload_n dX6_putsBack_13 rfl ?_
        refine ev_getr 2 dX6_putsBack_14 rfl rfl flX6_16 iwX6 (by decide) rfl ?_
        refine ev_iload_n dX6_putsBack_17 rfl ?_
        refine ev_iald dX6_putsBack_18 rfl (by omega) ?_
        refine ev_iast dX6_putsBack_19 rfl (by omega) ?_
        refine ev_iinc dX6_putsBack_20 rfl (by decide) rfl ?_
        refine ev_goto (tgt := 2) dX6_putsBack_23 (by decide) ?_
        rw [cpy_ne (x := 49) (by decide), cpy_s (by omega)]
        exact ih (i + 1) (by omega)
  refine ev_iconst dX6_putsBack_0 ?_
  refine ev_istore_n dX6_putsBack_1 (by decide) rfl ?_
  have l := loop 100 0 (by omega)
  rw [show ((0 : Nat) : Int) = 0 from rfl, cpy_0] at l
  exact l
theorem c_X6_laysAside {b : ev_B} {σ : ev_M} : CF b mX6_laysAside [vR 46] σ (none) (cpy σ 50 47 100) := by
  refine ev_enter okX6_laysAside.1 (Nat.le_of_ble_eq_true rfl) ?_
  have loop : ∀ (m i : Nat), i + m = 100 → Ev b mX6_laysAside 2 [(0, vR 46), (1, vI i)] [] (cpy σ 50 47 i) (fun r τ => r = none ∧ τ = cpy σ 50 47 100) := by
    intro m
    induction m with
    | zero =>
      intro i h
      refine ev_iload_n dX6_laysAside_2 rfl ?_
      refine ev_bipush dX6_laysAside_3 (by decide) ?_
      refine ev_icmp_ge (tgt := 26) dX6_laysAside_5 (by decide) (by omega) (by omega) (fun c5 => ?_) (fun c5 => ?_)
      · refine ev_vret dX6_laysAside_26 rfl ?_
        have e : (i : Int) = 100 := by omega
        rw [e]
        exact ⟨rfl, rfl⟩
      · exact absurd c5 (by omega)
    | succ m ih =>
      intro i h
      refine ev_iload_n dX6_laysAside_2 rfl ?_
      refine ev_bipush dX6_laysAside_3 (by decide) ?_
      refine ev_icmp_ge (tgt := 26) dX6_laysAside_5 (by decide) (by omega) (by omega) (fun c5 => ?_) (fun c5 => ?_)
      · exact absurd c5 (by omega)
      · refine ev_aload_n dX6_laysAside_8 rfl ?_
        refine ev_getr 3 dX6_laysAside_9 rfl rfl flX6_19 iwX6 (by decide) rfl ?_
        refine ev_iload_n dX6_laysAside_12 rfl ?_
        refine ev_aload_n dX6_laysAside_13 rfl ?_
        refine ev_getr 0 dX6_laysAside_14 rfl rfl flX6_7 iwX6 (by decide) rfl ?_
        refine ev_iload_n dX6_laysAside_17 rfl ?_
        refine ev_iald dX6_laysAside_18 rfl (by omega) ?_
        refine ev_iast dX6_laysAside_19 rfl (by omega) ?_
        refine ev_iinc dX6_laysAside_20 rfl (by decide) rfl ?_
        refine ev_goto (tgt := 2) dX6_laysAside_23 (by decide) ?_
        rw [cpy_ne (x := 47) (by decide), cpy_s (by omega)]
        exact ih (i + 1) (by omega)
  refine ev_iconst dX6_laysAside_0 ?_
  refine ev_istore_n dX6_laysAside_1 (by decide) rfl ?_
  have l := loop 100 0 (by omega)
  rw [show ((0 : Nat) : Int) = 0 from rfl, cpy_0] at l
  exact l
theorem c_X6_takesBack {b : ev_B} {σ : ev_M} {v : Int} : CF b mX6_takesBack [vR 46, vI v] σ (some (vI v)) (cpy σ 47 50 100) := by
  refine ev_enter okX6_takesBack.1 (Nat.le_of_ble_eq_true rfl) ?_
  have loop : ∀ (m i : Nat), i + m = 100 → Ev b mX6_takesBack 2 [(0, vR 46), (1, vI v), (2, vI i)] [] (cpy σ 47 50 i) (fun r τ => r = some (vI v) ∧ τ = cpy σ 47 50 100) := by
    intro m
    induction m with
    | zero =>
      intro i h
      refine ev_iload_n dX6_takesBack_2 rfl ?_
      refine ev_bipush dX6_takesBack_3 (by decide) ?_
      refine ev_icmp_ge (tgt := 26) dX6_takesBack_5 (by decide) (by omega) (by omega) (fun c5 => ?_) (fun c5 => ?_)
      · refine ev_iload_n dX6_takesBack_26 rfl ?_
        refine ev_iret dX6_takesBack_27 rfl rfl ?_
        have e : (i : Int) = 100 := by omega
        rw [e]
        exact ⟨rfl, rfl⟩
      · exact absurd c5 (by omega)
    | succ m ih =>
      intro i h
      refine ev_iload_n dX6_takesBack_2 rfl ?_
      refine ev_bipush dX6_takesBack_3 (by decide) ?_
      refine ev_icmp_ge (tgt := 26) dX6_takesBack_5 (by decide) (by omega) (by omega) (fun c5 => ?_) (fun c5 => ?_)
      · exact absurd c5 (by omega)
      · refine ev_aload_n dX6_takesBack_8 rfl ?_
        refine ev_getr 0 dX6_takesBack_9 rfl rfl flX6_7 iwX6 (by decide) rfl ?_
        refine ev_iload_n dX6_takesBack_12 rfl ?_
        refine ev_aload_n dX6_takesBack_13 rfl ?_
        refine ev_getr 3 dX6_takesBack_14 rfl rfl flX6_19 iwX6 (by decide) rfl ?_
        refine ev_iload_n dX6_takesBack_17 rfl ?_
        refine ev_iald dX6_takesBack_18 rfl (by omega) ?_
        refine ev_iast dX6_takesBack_19 rfl (by omega) ?_
        refine ev_iinc dX6_takesBack_20 rfl (by decide) rfl ?_
        refine ev_goto (tgt := 2) dX6_takesBack_23 (by decide) ?_
        rw [cpy_ne (x := 50) (by decide), cpy_s (by omega)]
        exact ih (i + 1) (by omega)
  refine ev_iconst dX6_takesBack_0 ?_
  refine ev_istore_n dX6_takesBack_1 (by decide) rfl ?_
  have l := loop 100 0 (by omega)
  rw [show ((0 : Nat) : Int) = 0 from rfl, cpy_0] at l
  exact l
theorem c_X6_eatenOn {b : ev_B} {σ : ev_M} {n : Nat} (H : okP (wr (σ 47))) (ha : 0 ≤ σ 46 6 ∧ σ 46 6 < 256) (hn : n < 1000) : Cl b mX6_eatenOn [vR 46, vI n] σ (fun r τ => r = some (vI (eatN (wr (σ 47)) (prA (σ 46 6)) n)) ∧ eqS (τ 47) (σ 47) ∧ frD σ τ) := by
  refine ev_enter okX6_eatenOn.1 (Nat.le_of_ble_eq_true rfl) ?_
  refine ev_aload_n dX6_eatenOn_0 rfl ?_
  refine ev_V0 c_X6_laysAside okX6_laysAside dX6_eatenOn_1 mlX6_184 rfl rfl ⟨by decide, by decide⟩ rfl (Nat.le_of_ble_eq_true rfl) ?_
  generalize hω : cpy σ 50 47 100 = ω
  have w47 : ω 47 = σ 47 := by rw [← hω]; exact cpy_ne (by decide)
  have wa : ∀ a : Nat, a ≠ 50 → ω a = σ a := fun a h => by rw [← hω]; exact cpy_ne h
  have w50 : ∀ i : Int, 0 ≤ i ∧ i < 100 → ω 50 i = σ 47 i := fun i hi => by rw [← hω]; exact cpy_at i hi
  have w46 := wa 46 (by decide)
  refine ev_aload_n dX6_eatenOn_4 rfl ?_
  refine ev_aload_n dX6_eatenOn_5 rfl ?_
  refine ev_iload_n dX6_eatenOn_6 rfl ?_
  refine ev_callV (c_X6_daysGo (by rw [w47]; exact H) (by rw [w46]; exact ha) hn) okX6_daysGo dX6_eatenOn_7 mlX6_169 rfl rfl ⟨by decide, by decide⟩ rfl (Nat.le_of_ble_eq_true rfl) (fun r7 τ7 h7 => ?_)
  obtain ⟨rfl, g1, g2⟩ := h7
  rw [w47, w46]
  refine ev_V1 c_X6_takesBack okX6_takesBack dX6_eatenOn_10 mlX6_187 rfl rfl ⟨by decide, by decide⟩ rfl (Nat.le_of_ble_eq_true rfl) ?_
  refine ev_iret dX6_eatenOn_13 rfl rfl ?_
  refine ⟨rfl, fun i hi => ?_, fun a h1 h2 h3 => ?_⟩
  · rw [cpy_at i hi, g2 50 (by omega) (by omega)]; exact w50 i hi
  · rw [cpy_ne h1, g2 a h1 h3]; exact wa a h2
theorem RP_D {σ τ : ev_M} {v : Int} (h : σ 46 6 = 0) (H : okP (wr (σ 47))) (h1 : frD σ τ) (h2 : eqS (τ 47) (σ 47)) : RP σ (v, prj σ) (some (vI v)) τ :=
  RP_fr h H (fun a ha => h1 a (by omega) (by omega) (by omega)) h2 (h1 46 (by omega) (by omega) (by omega))
theorem REL_fnd {A B : ev_M} {i : Int} (h : REL A B) (hi : 0 ≤ i ∧ i < 7) : REL (fnd A i) (fnd B i) := by
  obtain ⟨h1, h2, h3, h4, h5, h6, h7⟩ := h
  unfold fnd
  refine ⟨?_, ?_, ?_, ?_, fun x hx => ?_, fun q hq => ?_, fun x hx => ?_⟩
  · rw [wn_congr (fun j hj => mup_ne (by omega)), wn_congr (fun j hj => mup_ne (by omega))]; exact h1
  · rw [wn_congr (fun j hj => mup_ne (by omega)), wn_congr (fun j hj => mup_ne (by omega))]; exact h2
  · rw [mup_ne (by omega), mup_ne (by omega)]; exact h3
  · rw [mup_ne (by omega), mup_ne (by omega)]; exact h4
  · rw [mup_ne (by omega)] at hx
    rw [mup_ne (by omega), mup_ne (by omega)]; exact h5 x hx
  · have hb : 37 ≤ q ∧ q ≤ 43 := by rcases hq with rfl | rfl | rfl | rfl <;> omega
    rw [mup_ne (by omega), mup_ne (by omega), mup_ne (by omega), mup_ne (by omega)]; exact h6 q hq
  · rw [mup_row, mup_row, h7 i hi]
    unfold upw
    rw [h7 x hx]
theorem RP_Df {σ υ : ev_M} {v i : Int} (ha : σ 46 6 = 0) (H : okP (wr (σ 47))) (fr : frD σ υ) (es : eqS (υ 47) (σ 47)) (hi : 0 ≤ i ∧ i < 7) : RP σ (v, fnd (prj σ) i) (some (vI v)) (mup υ 51 i (υ 51 i + 1)) := by
  have pe : eqP (wr (σ 47)) (wr (υ 47)) := eqP_symm (eqS_wr es H)
  have z := prj_51 (σ := υ) (i := i) (v := υ 51 i + 1)
  have y : REL (prj σ) (prj υ) := prj_47 (σ := σ) (by rw [prj_1]; exact pe) (fun _ _ => rfl) (fun a h1 h2 => fr a h1 (by omega) (by omega)) (by rw [fr 46 (by omega) (by omega) (by omega)]) (by rw [fr 46 (by omega) (by omega) (by omega)])
  exact ⟨rfl, REL_tr (REL_fnd y hi) z, fun a hx => by rw [mup_ne (by omega)]; exact fr a (by omega) (by omega) (by omega), by rw [mup_ne (by omega), fr 46 (by omega) (by omega) (by omega)]; exact ha⟩
theorem c_X6_eaten {b : ev_B} {σ : ev_M} {n : Int} (H : okP (wr (σ 47))) (ha : σ 46 6 = 0) (h1 : (-2147483648 ≤ n ∧ n < 2147483648)) : Cl b mX6_eaten [vR 46, vI n] σ (RP σ (sc_eaten (prj σ) n)) := by
  refine ev_enter okX6_eaten.1 (Nat.le_of_ble_eq_true rfl) ?_
  unfold sc_eaten
  rw [prj_1]
  refine ev_iload_n dX6_eaten_0 rfl ?_
  refine ev_i2l dX6_eaten_1 (by omega) ?_
  refine ev_lconst (z := 0) dX6_eaten_2 rfl ?_
  refine ev_ldc2 (z := 60) dX6_eaten_3 klX6_166 (by decide) ?_
  refine ev_Sbeq (tgt := 20) (c_X6_in (by omega) (by omega) (by omega)) okX6_in dX6_eaten_6 mlX6_53 ⟨by decide, by decide⟩ rfl (Nat.le_of_ble_eq_true rfl) dX6_eaten_9 (by decide) (fun c6 => ?_) (fun c6 => ?_)
  · rw [if_neg (by omega)]
    refine ev_aload_n dX6_eaten_20 rfl ?_
    refine ev_ldc (z := -1000000001) dX6_eaten_21 kcX6_50 (by decide) ?_
    refine ev_V1 (c_X6_finds (by omega)) okX6_finds dX6_eaten_23 mlX6_101 rfl rfl ⟨by decide, by decide⟩ rfl (Nat.le_of_ble_eq_true rfl) ?_
    refine ev_iret dX6_eaten_26 rfl rfl ?_
    exact RP_fnd ha
  · rw [if_pos (by omega)]
    obtain ⟨k, hk, hk2⟩ := nn_ex (show 0 ≤ n by omega)
    subst hk
    refine ev_aload_n dX6_eaten_12 rfl ?_
    refine ev_iload_n dX6_eaten_13 rfl ?_
    refine ev_callV (c_X6_eatenOn H (by omega) (by omega)) okX6_eatenOn dX6_eaten_14 mlX6_190 rfl rfl ⟨by decide, by decide⟩ rfl (Nat.le_of_ble_eq_true rfl) (fun r14 τ14 h14 => ?_)
    obtain ⟨rfl, g1, g2⟩ := h14
    rw [ha, prA_0, hk2]
    refine ev_goto (tgt := 26) dX6_eaten_17 (by decide) ?_
    refine ev_iret dX6_eaten_26 rfl rfl ?_
    exact RP_D ha H g2 g1
theorem c_X6_on {b : ev_B} {σ : ev_M} {c n : Int} (H : okP (wr (σ 47))) (ha : σ 46 6 = 0) (h1 : (-2147483648 ≤ c ∧ c < 2147483648)) (h2 : (-2147483648 ≤ n ∧ n < 2147483648)) : Cl b mX6_on [vR 46, vI c, vI n] σ (RP σ (sc_on (prj σ) c n)) := by
  refine ev_enter okX6_on.1 (Nat.le_of_ble_eq_true rfl) ?_
  unfold sc_on
  rw [prj_1]
  refine ev_iload_n dX6_on_0 rfl ?_
  refine ev_Sbeq (tgt := 19) (c_X6_isCell (by omega)) okX6_isCell dX6_on_1 mlX6_93 ⟨by decide, by decide⟩ rfl (Nat.le_of_ble_eq_true rfl) dX6_on_4 (by decide) (fun c1 => ?_) (fun c1 => ?_)
  · rw [if_neg (by omega)]
    refine ev_aload_n dX6_on_19 rfl ?_
    refine ev_ldc (z := -1000000001) dX6_on_20 kcX6_50 (by decide) ?_
    refine ev_V1 (c_X6_finds (by omega)) okX6_finds dX6_on_22 mlX6_101 rfl rfl ⟨by decide, by decide⟩ rfl (Nat.le_of_ble_eq_true rfl) ?_
    refine ev_iret dX6_on_25 rfl rfl ?_
    exact RP_fnd ha
  · refine ev_iload_n dX6_on_7 rfl ?_
    refine ev_i2l dX6_on_8 (by omega) ?_
    refine ev_lconst (z := 0) dX6_on_9 rfl ?_
    refine ev_ldc2 (z := 60) dX6_on_10 klX6_166 (by decide) ?_
    refine ev_Sbne (tgt := 26) (c_X6_in (by omega) (by omega) (by omega)) okX6_in dX6_on_13 mlX6_53 ⟨by decide, by decide⟩ rfl (Nat.le_of_ble_eq_true rfl) dX6_on_16 (by decide) (fun c13 => ?_) (fun c13 => ?_)
    · rw [if_pos (by omega)]
      obtain ⟨k, hk, hk2⟩ := nn_ex (show 0 ≤ n by omega)
      subst hk
      refine ev_aload_n dX6_on_26 rfl ?_
      refine ev_V0 c_X6_laysAside okX6_laysAside dX6_on_27 mlX6_184 rfl rfl ⟨by decide, by decide⟩ rfl (Nat.le_of_ble_eq_true rfl) ?_
      generalize hω : cpy σ 50 47 100 = ω
      have w47 : ω 47 = σ 47 := by rw [← hω]; exact cpy_ne (by decide)
      have wa : ∀ a : Nat, a ≠ 50 → ω a = σ a := fun a h => by rw [← hω]; exact cpy_ne h
      have w50 : ∀ i : Int, 0 ≤ i ∧ i < 100 → ω 50 i = σ 47 i := fun i hi => by rw [← hω]; exact cpy_at i hi
      have w46 := wa 46 (by decide)
      refine ev_aload_n dX6_on_30 rfl ?_
      refine ev_iload_n dX6_on_31 rfl ?_
      refine ev_callV (c_X6_daysGo (by rw [w47]; exact H) (by rw [w46]; omega) (by omega)) okX6_daysGo dX6_on_32 mlX6_169 rfl rfl ⟨by decide, by decide⟩ rfl (Nat.le_of_ble_eq_true rfl) (fun r32 τ32 h32 => ?_)
      obtain ⟨rfl, g1, g2⟩ := h32
      rw [w47, w46, ha, prA_0] at g1
      have e := g1.2.2.2.2.1 c (by omega)
      have e' : τ32 47 (4 + c) = dayN (wr (σ 47)) allp k 1 c := e
      refine ev_istore_n dX6_on_35 (by decide) rfl ?_
      refine ev_aload_n dX6_on_36 rfl ?_
      refine ev_aload_n dX6_on_37 rfl ?_
      refine ev_getr 0 dX6_on_38 rfl rfl flX6_7 iwX6 (by decide) rfl ?_
      refine ev_iconst dX6_on_41 ?_
      refine ev_iload_n dX6_on_42 rfl ?_
      refine ev_iadd dX6_on_43 ?_
      refine ev_iald dX6_on_44 rfl (by omega) ?_
      rw [e', hk2]
      refine ev_V1 c_X6_takesBack okX6_takesBack dX6_on_45 mlX6_187 rfl rfl ⟨by decide, by decide⟩ rfl (Nat.le_of_ble_eq_true rfl) ?_
      refine ev_iret dX6_on_48 rfl rfl ?_
      refine RP_D ha H (fun a h1 h2 h3 => ?_) (fun i hi => ?_)
      · rw [cpy_ne h1, g2 a h1 h3]; exact wa a h2
      · rw [cpy_at i hi, g2 50 (by omega) (by omega)]; exact w50 i hi
    · rw [if_neg (by omega)]
      refine ev_aload_n dX6_on_19 rfl ?_
      refine ev_ldc (z := -1000000001) dX6_on_20 kcX6_50 (by decide) ?_
      refine ev_V1 (c_X6_finds (by omega)) okX6_finds dX6_on_22 mlX6_101 rfl rfl ⟨by decide, by decide⟩ rfl (Nat.le_of_ble_eq_true rfl) ?_
      refine ev_iret dX6_on_25 rfl rfl ?_
      exact RP_fnd ha
theorem eatc_le {f w : Int → Int} (hw : ∀ c : Int, 0 ≤ c ∧ c < 48 → 0 ≤ w c ∧ w c ≤ 99) : ∀ (k : Nat) (c : Int), 0 ≤ c ∧ c < 48 → (eatc f w k).1 c ≤ w c
  | 0, c, _ => Int.le_refl _
  | k + 1, c, hc => by
    have ih := eatc_le (f := f) hw k c hc
    have eo := eatc_ok (f := f) hw k
    have lb := lnd_bd (eatc f w k).1 f 48
    unfold eatc
    split
    · exact ih
    · show upw (eatc f w k).1 (lnd (eatc f w k).1 f 48) _ c ≤ w c
      unfold upw
      split
      · rename_i h z
        have := eo.1 (lnd (eatc f w k).1 f 48) (by omega)
        rw [z] at ih
        rw [z]
        omega
      · exact ih
theorem day_le {P : ev_M} {pr : Int → Bool} (H : okP P) {c : Int} (hc : 0 ≤ c ∧ c < 48) : ∀ n : Nat, dayN P pr n 1 c ≤ P 1 c
  | 0 => Int.le_refl _
  | n + 1 => by
    have ih := day_le (pr := pr) H hc n
    have z := eatc_le (f := fear (dayN P pr n) pr) (w := dayN P pr n 1) (okP_dayN H n).2.2.2.2.1 (dayN P pr n 0 1).toNat c hc
    have e : dayN P pr (n + 1) 1 c = (eatc (fear (dayN P pr n) pr) (dayN P pr n 1) (dayN P pr n 0 1).toNat).1 c := rfl
    omega
theorem c_X6_first {b : ev_B} {σ : ev_M} {c : Int} (H : okP (wr (σ 47))) (ha : σ 46 6 = 0) (h1 : (-2147483648 ≤ c ∧ c < 2147483648)) : Cl b mX6_first [vR 46, vI c] σ (RP σ (sc_first (prj σ) c)) := by
  refine ev_enter okX6_first.1 (Nat.le_of_ble_eq_true rfl) ?_
  unfold sc_first
  rw [prj_1]
  refine ev_iload_n dX6_first_0 rfl ?_
  refine ev_Sbne (tgt := 14) (c_X6_isCell (by omega)) okX6_isCell dX6_first_1 mlX6_93 ⟨by decide, by decide⟩ rfl (Nat.le_of_ble_eq_true rfl) dX6_first_4 (by decide) (fun c1 => ?_) (fun c1 => ?_)
  · rw [if_pos (by omega)]
    refine ev_aload_n dX6_first_14 rfl ?_
    refine ev_getr 0 dX6_first_15 rfl rfl flX6_7 iwX6 (by decide) rfl ?_
    refine ev_iconst dX6_first_18 ?_
    refine ev_iload_n dX6_first_19 rfl ?_
    refine ev_iadd dX6_first_20 ?_
    refine ev_iald dX6_first_21 rfl (by omega) ?_
    refine ev_istore_n dX6_first_22 (by decide) rfl ?_
    refine ev_aload_n dX6_first_23 rfl ?_
    refine ev_V0 c_X6_laysAside okX6_laysAside dX6_first_24 mlX6_184 rfl rfl ⟨by decide, by decide⟩ rfl (Nat.le_of_ble_eq_true rfl) ?_
    generalize hω : cpy σ 50 47 100 = ω
    have w47 : ω 47 = σ 47 := by rw [← hω]; exact cpy_ne (by decide)
    have wa : ∀ a : Nat, a ≠ 50 → ω a = σ a := fun a h => by rw [← hω]; exact cpy_ne h
    have w50 : ∀ i : Int, 0 ≤ i ∧ i < 100 → ω 50 i = σ 47 i := fun i hi => by rw [← hω]; exact cpy_at i hi
    have w46 := wa 46 (by decide)
    have wc := okrw H (c := c) (by omega)
    have e0 : wr (σ 47) 1 c = σ 47 (4 + c) := rfl
    generalize hP : wr (σ 47) = P at *
    generalize hnow : σ 47 (4 + c) = now at *
    generalize hS : frs P c 1 60 = S
    have fin : ∀ (n : Int) (τ : ev_M) (ls : List (Nat × ev_V)), ev_lk ls 0 = some (vR 46) → ev_lk ls 3 = some (vI n) → (n = 61 ∧ S = 0 ∨ (1 ≤ n ∧ n ≤ 60) ∧ S = n) → (∀ a : Nat, a ≠ 47 → a < 52 ∨ 54 < a → τ a = ω a) → Ev b mX6_first 59 ls [] τ (RP σ (if S = 0 then (-1000000004, fnd (prj σ) 3) else (S, prj σ))) := by
      intro n τ ls l0 l3 hn f
      refine Ev.lsub (ls' := [(0, vR 46), (3, vI n)]) (by simp [l0, l3]) ?_
      have fr : frD σ (cpy τ 47 50 100) := fun a h1 h2 h3 => by rw [cpy_ne h1, f a h1 h3]; exact wa a h2
      have es : eqS (cpy τ 47 50 100 47) (σ 47) := fun i hi => by rw [cpy_at i hi, f 50 (by omega) (by omega)]; exact w50 i hi
      refine ev_aload_n dX6_first_59 rfl ?_
      refine ev_iload_n dX6_first_60 rfl ?_
      refine ev_V1 c_X6_takesBack okX6_takesBack dX6_first_61 mlX6_187 rfl rfl ⟨by decide, by decide⟩ rfl (Nat.le_of_ble_eq_true rfl) ?_
      refine ev_istore dX6_first_64 (by decide) rfl ?_
      refine ev_iload dX6_first_66 rfl ?_
      refine ev_bipush dX6_first_68 (by decide) ?_
      refine ev_icmp_le (tgt := 82) dX6_first_70 (by decide) (by omega) (by omega) (fun c70 => ?_) (fun c70 => ?_)
      · rw [if_neg (by omega)]
        refine ev_iload dX6_first_82 rfl ?_
        refine ev_iret dX6_first_84 rfl rfl ?_
        rw [show S = n by omega]
        exact RP_D ha (by rw [hP]; exact H) fr es
      · rw [if_pos (by omega)]
        refine ev_aload_n dX6_first_73 rfl ?_
        refine ev_ldc (z := -1000000004) dX6_first_74 kcX6_162 (by decide) ?_
        refine ev_V1 (c_X6_finds (by omega)) okX6_finds dX6_first_76 mlX6_101 rfl rfl ⟨by decide, by decide⟩ rfl (Nat.le_of_ble_eq_true rfl) ?_
        refine ev_goto (tgt := 84) dX6_first_79 (by decide) ?_
        refine ev_iret dX6_first_84 rfl rfl ?_
        exact RP_Df ha (by rw [hP]; exact H) fr es (by omega)
    have loop : ∀ (m n : Nat) (τ : ev_M) (ls : List (Nat × ev_V)), ev_lk ls 0 = some (vR 46) → ev_lk ls 1 = some (vI c) → ev_lk ls 2 = some (vI now) → ev_lk ls 3 = some (vI n) → n + m = 61 → eqP (wr (τ 47)) (dayN P allp n) → (n = 0 ∨ S = frs P c n m) → (∀ a : Nat, a ≠ 47 → a < 52 ∨ 54 < a → τ a = ω a) → Ev b mX6_first 29 ls [] τ (RP σ (if S = 0 then (-1000000004, fnd (prj σ) 3) else (S, prj σ))) := by
      intro m
      induction m with
      | zero =>
        intro n τ ls l0 l1 l2 l3 h e k f
        refine Ev.lsub (ls' := [(0, vR 46), (1, vI c), (2, vI now), (3, vI n)]) (by simp [l0, l1, l2, l3]) ?_
        refine ev_iload_n dX6_first_29 rfl ?_
        refine ev_bipush dX6_first_30 (by decide) ?_
        refine ev_icmp_gt (tgt := 59) dX6_first_32 (by decide) (by omega) (by omega) (fun c32 => ?_) (fun c32 => ?_)
        · refine fin n τ _ rfl rfl (Or.inl ⟨by omega, ?_⟩) f
          rcases k with k | k
          · omega
          · rw [k]; rfl
        · exact absurd c32 (by omega)
      | succ m ih =>
        intro n τ ls l0 l1 l2 l3 h e k f
        refine Ev.lsub (ls' := [(0, vR 46), (1, vI c), (2, vI now), (3, vI n)]) (by simp [l0, l1, l2, l3]) ?_
        have Hn := okP_dayN (pr := allp) H n
        have ew : τ 47 (4 + c) = dayN P allp n 1 c := e.2.2.2.2.1 c (by omega)
        have wb := Hn.2.2.2.2.1 c (by omega)
        have le := day_le (pr := allp) H (c := c) (by omega) n
        refine ev_iload_n dX6_first_29 rfl ?_
        refine ev_bipush dX6_first_30 (by decide) ?_
        refine ev_icmp_gt (tgt := 59) dX6_first_32 (by decide) (by omega) (by omega) (fun c32 => ?_) (fun c32 => ?_)
        · exact absurd c32 (by omega)
        · refine ev_aload_n dX6_first_35 rfl ?_
          refine ev_getr 0 dX6_first_36 rfl rfl flX6_7 iwX6 (by decide) rfl ?_
          refine ev_iconst dX6_first_39 ?_
          refine ev_iload_n dX6_first_40 rfl ?_
          refine ev_iadd dX6_first_41 ?_
          refine ev_iald dX6_first_42 rfl (by omega) ?_
          rw [ew]
          refine ev_iload_n dX6_first_43 rfl ?_
          refine ev_icmp_ne (tgt := 59) dX6_first_44 (by decide) (by omega) (by omega) (fun c44 => ?_) (fun c44 => ?_)
          · have n1 : n ≠ 0 := fun z => by
              subst z
              apply c44
              show P 1 c = now
              rw [e0]
            refine fin n τ _ rfl rfl (Or.inr ⟨by omega, ?_⟩) f
            rcases k with k | k
            · exact absurd k n1
            · rw [k, frs, if_pos (by omega)]
          · have e46 : τ 46 = σ 46 := by rw [f 46 (by omega) (by omega)]; exact w46
            refine ev_aload_n dX6_first_47 rfl ?_
            refine ev_callV (c_X6_day (eqP_ok e Hn) (by rw [e46]; omega)) okX6_day dX6_first_48 mlX6_163 rfl rfl ⟨by decide, by decide⟩ rfl (Nat.le_of_ble_eq_true rfl) (fun r48 τ48 h48 => ?_)
            obtain ⟨rfl, g1, g2⟩ := h48
            rw [e46, ha, prA_0] at g1
            refine ev_istore dX6_first_51 (by decide) rfl ?_
            refine ev_iinc dX6_first_53 rfl (by decide) rfl ?_
            refine ev_goto (tgt := 29) dX6_first_56 (by decide) ?_
            refine ih (n + 1) τ48 _ rfl rfl rfl rfl (by omega) (eqP_trans g1 (eqP_dayP e Hn).1) (Or.inr ?_) (fun a h1 h2 => by rw [g2 a h1 h2]; exact f a h1 h2)
            rcases k with k | k
            · subst k
              rw [← hS, show m = 60 by omega]
            · rw [k, frs, if_neg (by omega)]
    refine ev_iconst dX6_first_27 ?_
    refine ev_istore_n dX6_first_28 (by decide) rfl ?_
    exact loop 61 0 ω _ rfl rfl rfl rfl (by omega) (by rw [w47, hP]; exact eqP_rf) (Or.inl rfl) (fun _ _ _ => rfl)
  · rw [if_neg (by omega)]
    refine ev_aload_n dX6_first_7 rfl ?_
    refine ev_ldc (z := -1000000001) dX6_first_8 kcX6_50 (by decide) ?_
    refine ev_V1 (c_X6_finds (by omega)) okX6_finds dX6_first_10 mlX6_101 rfl rfl ⟨by decide, by decide⟩ rfl (Nat.le_of_ble_eq_true rfl) ?_
    refine ev_iret dX6_first_13 rfl rfl ?_
    exact RP_fnd ha
