/-! the rest of the class -/
theorem i64b (x : Int64) : -9223372036854775808 ≤ x.toInt ∧ x.toInt < 9223372036854775808 := ⟨Int64.le_toInt x, Int64.toInt_lt x⟩
def okT (σ : ev_M) : Prop := (0 ≤ σ 34 1 ∧ σ 34 1 ≤ 120) ∧ ∀ i : Int, 0 ≤ i ∧ i < σ 34 1 → (-2147483648 ≤ σ 35 i ∧ σ 35 i < 2147483648)
def byt (x i : Int) : Int := (Int32.ofInt (Int32.ofInt x >>> (Int32.ofInt (8 * i) &&& 31)).toInt &&& Int32.ofInt 255).toInt
theorem byt_bd {x i : Int} : (-2147483648 ≤ byt x i ∧ byt x i < 2147483648) := i32b _
def fdM (σ : ev_M) (a o : Nat) (f x n : Int) : Nat → ev_M
  | 0 => σ
  | j + 1 => mup (mup (fdM σ a o f x n j) a (fdM σ a o f x n j o f) (byt x (n - 1 - j))) o f (fdM σ a o f x n j o f + 1)
theorem fdM_of {σ : ev_M} {a o : Nat} {f x n : Int} (h : a ≠ o) : ∀ j : Nat, fdM σ a o f x n j o f = σ o f + j
  | 0 => by simp [fdM]
  | j + 1 => by
    have ih := fdM_of (σ := σ) (a := a) (o := o) (f := f) (x := x) (n := n) h j
    unfold fdM
    rw [ih]
    unfold mup
    rw [if_pos ⟨rfl, rfl⟩]
    omega
theorem c_X4_add {b : ev_B} {σ : ev_M} {v : Int} (h : 0 ≤ σ 34 1 ∧ σ 34 1 < 120) : CF b mX4_add [vR 34, vI v] σ none (mup (mup σ 35 (σ 34 1) v) 34 1 (σ 34 1 + 1)) := by
  refine ev_enter okX4_add.1 (Nat.le_of_ble_eq_true rfl) ?_
  refine ev_aload_n dX4_add_0 rfl ?_
  refine ev_getr 0 dX4_add_1 rfl rfl flX4_11 iwX4 (by decide) rfl ?_
  refine ev_aload_n dX4_add_4 rfl ?_
  refine ev_geti 1 1 dX4_add_5 rfl rfl flX4_15 iwX4 (by decide) rfl rfl ?_
  refine ev_iload_n dX4_add_8 rfl ?_
  refine ev_iast dX4_add_9 rfl (by omega) ?_
  refine ev_aload_n dX4_add_10 rfl ?_
  refine ev_dup dX4_add_11 rfl ?_
  refine ev_geti 1 1 dX4_add_12 rfl rfl flX4_15 iwX4 (by decide) rfl rfl ?_
  refine ev_iconst dX4_add_15 ?_
  refine ev_iadd dX4_add_16 ?_
  refine ev_put (ty := .int) 1 1 dX4_add_17 rfl rfl flX4_15 iwX4 tyX4_ok nmX4 (by decide) rfl rfl (by decide +kernel) rfl rfl rfl ?_
  refine ev_vret dX4_add_20 rfl ?_
  exact ⟨rfl, rfl⟩
def sc_feed (σ : ev_M) (x n : Int) : Int × ev_M := if ¬ (1 ≤ n ∧ n ≤ 4) then (-1000000001, fnd σ 0) else if 120 < σ 34 1 + n then (-1000000002, fnd σ 1) else (σ 34 1 + n, fdM σ 35 34 1 x n n.toNat)
theorem c_X5_feed {b : ev_B} {σ : ev_M} {x n : Int} (HT : okT σ) (h1 : (-2147483648 ≤ x ∧ x < 2147483648)) (h2 : (-2147483648 ≤ n ∧ n < 2147483648)) : Cl b mX5_feed [vR 0, vI x, vI n] σ (fun r τ => r = some (vI (sc_feed σ x n).1) ∧ sameC (sc_feed σ x n).2 τ) := by
  refine ev_enter okX5_feed.1 (Nat.le_of_ble_eq_true rfl) ?_
  unfold sc_feed
  obtain ⟨t1, t2⟩ := HT
  have loop : ∀ (m j : Nat), j + m = n.toNat → 1 ≤ n → n ≤ 4 → σ 34 1 + n ≤ 120 → Ev b mX5_feed 39 [(0, vR 0), (1, vI x), (2, vI n), (3, vI (n - 1 - j))] [] (fdM σ 35 34 1 x n j) (fun r τ => r = some (vI (σ 34 1 + n)) ∧ sameC (fdM σ 35 34 1 x n n.toNat) τ) := by
    intro m
    induction m with
    | zero =>
      intro j h g1 g2 g3
      have e := fdM_of (σ := σ) (a := 35) (o := 34) (f := 1) (x := x) (n := n) (by decide) j
      refine ev_iload_n dX5_feed_39 rfl ?_
      refine ev_if_lt (tgt := 66) dX5_feed_40 (by decide) (by omega) (fun c40 => ?_) (fun c40 => ?_)
      · refine ev_aload_n dX5_feed_66 rfl ?_
        refine ev_getr 4 dX5_feed_67 rfl rfl flX5_32 iwX5 (by decide) rfl ?_
        refine ev_geti 1 1 dX5_feed_70 rfl rfl flX5_198 iwX4 (by decide) rfl rfl ?_
        refine ev_iret dX5_feed_73 rfl rfl ?_
        rw [e, show ((j : Nat) : Int) = n by omega, show n.toNat = j by omega]
        exact ⟨rfl, sameC_rf⟩
      · exact absurd c40 (by omega)
    | succ m ih =>
      intro j h g1 g2 g3
      have e := fdM_of (σ := σ) (a := 35) (o := 34) (f := 1) (x := x) (n := n) (by decide) j
      refine ev_iload_n dX5_feed_39 rfl ?_
      refine ev_if_lt (tgt := 66) dX5_feed_40 (by decide) (by omega) (fun c40 => ?_) (fun c40 => ?_)
      · exact absurd c40 (by omega)
      · refine ev_aload_n dX5_feed_43 rfl ?_
        refine ev_getr 4 dX5_feed_44 rfl rfl flX5_32 iwX5 (by decide) rfl ?_
        refine ev_iload_n dX5_feed_47 rfl ?_
        refine ev_bipush dX5_feed_48 (by decide) ?_
        refine ev_iload_n dX5_feed_50 rfl ?_
        refine ev_imul dX5_feed_51 ?_
        refine ev_ishr dX5_feed_52 (Int32.ofInt_toInt _).symm ?_
        refine ev_sipush dX5_feed_53 (by decide) ?_
        refine ev_iand dX5_feed_56 (Int32.ofInt_toInt _).symm ?_
        refine ev_V0 (c_X4_add (by rw [e]; omega)) okX4_add dX5_feed_57 mlX5_201 rfl rfl ⟨by decide, by decide⟩ rfl (Nat.le_of_ble_eq_true rfl) ?_
        refine ev_iinc dX5_feed_60 rfl (by decide) rfl ?_
        refine ev_goto (tgt := 39) dX5_feed_63 (by decide) ?_
        have l := ih (j + 1) (by omega) g1 g2 g3
        rw [show n - 1 - ((j + 1 : Nat) : Int) = n - 1 - j + -1 by omega] at l
        exact l
  refine ev_iload_n dX5_feed_0 rfl ?_
  refine ev_iconst dX5_feed_1 ?_
  refine ev_iconst dX5_feed_2 ?_
  refine ev_Sbne (tgt := 15) (c_X5_isWithin (by omega) (by omega) (by omega)) okX5_isWithin dX5_feed_3 mlX5_51 ⟨by decide, by decide⟩ rfl (Nat.le_of_ble_eq_true rfl) dX5_feed_6 (by decide) (fun c3 => ?_) (fun c3 => ?_)
  · rw [if_neg (by omega)]
    refine ev_aload_n dX5_feed_15 rfl ?_
    refine ev_getr 4 dX5_feed_16 rfl rfl flX5_32 iwX5 (by decide) rfl ?_
    refine ev_geti 1 1 dX5_feed_19 rfl rfl flX5_198 iwX4 (by decide) rfl rfl ?_
    refine ev_iload_n dX5_feed_22 rfl ?_
    refine ev_iadd dX5_feed_23 ?_
    refine ev_bipush dX5_feed_24 (by decide) ?_
    refine ev_icmp_le (tgt := 35) dX5_feed_26 (by decide) (by omega) (by omega) (fun c26 => ?_) (fun c26 => ?_)
    · rw [if_neg (by omega)]
      refine ev_iload_n dX5_feed_35 rfl ?_
      refine ev_iconst dX5_feed_36 ?_
      refine ev_isub dX5_feed_37 ?_
      refine ev_istore_n dX5_feed_38 (by decide) rfl ?_
      have l := loop n.toNat 0 (by omega) (by omega) (by omega) (by omega)
      rw [show n - 1 - ((0 : Nat) : Int) = n - 1 by omega] at l
      exact l
    · rw [if_pos (by omega)]
      refine ev_aload_n dX5_feed_29 rfl ?_
      refine ev_iconst dX5_feed_30 ?_
      refine ev_V1 (c_X5_finding (by omega)) okX5_finding dX5_feed_31 mlX5_55 rfl rfl ⟨by decide, by decide⟩ rfl (Nat.le_of_ble_eq_true rfl) ?_
      refine ev_iret dX5_feed_34 rfl rfl ?_
      exact ⟨rfl, sameC_rf⟩
  · rw [if_pos (by omega)]
    refine ev_aload_n dX5_feed_9 rfl ?_
    refine ev_iconst dX5_feed_10 ?_
    refine ev_V1 (c_X5_finding (by omega)) okX5_finding dX5_feed_11 mlX5_55 rfl rfl ⟨by decide, by decide⟩ rfl (Nat.le_of_ble_eq_true rfl) ?_
    refine ev_iret dX5_feed_14 rfl rfl ?_
    exact ⟨rfl, sameC_rf⟩
def sc_wipe (σ : ev_M) : Int × ev_M := (σ 34 1, mup σ 34 1 0)
theorem c_X5_wipe {b : ev_B} {σ : ev_M} : Cl b mX5_wipe [vR 0] σ (fun r τ => r = some (vI (sc_wipe σ).1) ∧ sameC (sc_wipe σ).2 τ) := by
  refine ev_enter okX5_wipe.1 (Nat.le_of_ble_eq_true rfl) ?_
  refine ev_aload_n dX5_wipe_0 rfl ?_
  refine ev_getr 4 dX5_wipe_1 rfl rfl flX5_32 iwX5 (by decide) rfl ?_
  refine ev_geti 1 1 dX5_wipe_4 rfl rfl flX5_198 iwX4 (by decide) rfl rfl ?_
  refine ev_istore_n dX5_wipe_7 (by decide) rfl ?_
  refine ev_aload_n dX5_wipe_8 rfl ?_
  refine ev_getr 4 dX5_wipe_9 rfl rfl flX5_32 iwX5 (by decide) rfl ?_
  refine ev_iconst dX5_wipe_12 ?_
  refine ev_put (ty := .int) 1 1 dX5_wipe_13 rfl rfl flX5_198 iwX4 tyX4_ok nmX4 (by decide) rfl rfl (by decide +kernel) rfl rfl rfl ?_
  refine ev_iload_n dX5_wipe_16 rfl ?_
  refine ev_iret dX5_wipe_17 rfl rfl ?_
  exact ⟨rfl, sameC_rf⟩
/-- all but the trial, the flock and the kept plain is as told -/
theorem c_X5_image {b : ev_B} {σ : ev_M} (H : okP (wn σ 1)) : Cl b mX5_image [vR 0] σ (fun r τ => r = some (vI 1) ∧ eqP (wn τ 10) (wn σ 1) ∧ τ 0 7 = 1 ∧ ∀ a : Nat, a ≠ 0 → a < 10 ∨ 18 < a → τ a = σ a) := by
  refine ev_enter okX5_image.1 (Nat.le_of_ble_eq_true rfl) ?_
  refine ev_aload_n dX5_image_0 rfl ?_
  refine ev_getr 1 dX5_image_1 rfl rfl flX5_16 iwX5 (by decide) rfl ?_
  refine ev_aload_n dX5_image_4 rfl ?_
  refine ev_getr 0 dX5_image_5 rfl rfl flX5_10 iwX5 (by decide) rfl ?_
  refine ev_callV (c_X2_become hP10 hP1 (by decide) H) okX2_become dX5_image_8 mlX5_174 rfl rfl ⟨by decide, by decide⟩ rfl (Nat.le_of_ble_eq_true rfl) (fun r8 τ8 h8 => ?_)
  obtain ⟨rfl, g1, g2⟩ := h8
  refine ev_aload_n dX5_image_11 rfl ?_
  refine ev_iconst dX5_image_12 ?_
  refine ev_put (ty := .boolean) 7 7 dX5_image_13 rfl rfl flX5_248 iwX5 tyX5_ok nmX5 (by decide) rfl rfl (by decide +kernel) rfl rfl rfl ?_
  refine ev_iconst dX5_image_16 ?_
  refine ev_iret dX5_image_17 rfl rfl ?_
  refine ⟨rfl, ?_, rfl, ?_⟩
  · rw [wn_congr (fun x hx => fr1 (by omega))]; exact g1
  · intro a h0 ha
    rw [fr1 (by omega)]
    exact g2 a (by omega)
theorem c_X5_undo {b : ev_B} {σ : ev_M} (H : okP (wn σ 10)) (h7 : σ 0 7 = 0 ∨ σ 0 7 = 1) : Cl b mX5_undo [vR 0] σ (fun r τ => if σ 0 7 = 0 then r = some (vI (-1000000004)) ∧ sameC (fnd σ 3) τ else r = some (vI (σ 10 3)) ∧ eqP (wn τ 1) (wn σ 10) ∧ ∀ a : Nat, a < 1 ∨ 9 < a → τ a = σ a) := by
  refine ev_enter okX5_undo.1 (Nat.le_of_ble_eq_true rfl) ?_
  refine ev_aload_n dX5_undo_0 rfl ?_
  refine ev_geti 7 7 dX5_undo_1 rfl rfl flX5_248 iwX5 (by decide) rfl rfl ?_
  refine ev_if_ne (tgt := 13) dX5_undo_4 (by decide) (by omega) (fun c4 => ?_) (fun c4 => ?_)
  · refine ev_aload_n dX5_undo_13 rfl ?_
    refine ev_getr 0 dX5_undo_14 rfl rfl flX5_10 iwX5 (by decide) rfl ?_
    refine ev_aload_n dX5_undo_17 rfl ?_
    refine ev_getr 1 dX5_undo_18 rfl rfl flX5_16 iwX5 (by decide) rfl ?_
    refine ev_callV (c_X2_become hP1 hP10 (by decide) H) okX2_become dX5_undo_21 mlX5_174 rfl rfl ⟨by decide, by decide⟩ rfl (Nat.le_of_ble_eq_true rfl) (fun r21 τ21 h21 => ?_)
    obtain ⟨rfl, g1, g2⟩ := h21
    refine ev_aload_n dX5_undo_24 rfl ?_
    refine ev_getr 0 dX5_undo_25 rfl rfl flX5_10 iwX5 (by decide) rfl ?_
    refine ev_geti 3 3 dX5_undo_28 rfl rfl flX5_79 iwX2 (by decide) rfl rfl ?_
    refine ev_iret dX5_undo_31 rfl rfl ?_
    rw [if_neg (by omega)]
    refine ⟨?_, g1, fun a ha => g2 a (by omega)⟩
    have e : τ21 1 3 = σ 10 3 := g1.2.2.1
    rw [e]
  · refine ev_aload_n dX5_undo_7 rfl ?_
    refine ev_iconst dX5_undo_8 ?_
    refine ev_V1 (c_X5_finding (by omega)) okX5_finding dX5_undo_9 mlX5_55 rfl rfl ⟨by decide, by decide⟩ rfl (Nat.le_of_ble_eq_true rfl) ?_
    refine ev_iret dX5_undo_12 rfl rfl ?_
    rw [if_pos (by omega)]
    exact ⟨rfl, sameC_rf⟩
def sc_tear (σ : ev_M) : Int × ev_M := (σ 0 7, mup σ 0 7 0)
theorem c_X5_tear {b : ev_B} {σ : ev_M} (h7 : σ 0 7 = 0 ∨ σ 0 7 = 1) : Cl b mX5_tear [vR 0] σ (fun r τ => r = some (vI (sc_tear σ).1) ∧ sameC (sc_tear σ).2 τ) := by
  refine ev_enter okX5_tear.1 (Nat.le_of_ble_eq_true rfl) ?_
  unfold sc_tear
  refine ev_aload_n dX5_tear_0 rfl ?_
  refine ev_geti 7 7 dX5_tear_1 rfl rfl flX5_248 iwX5 (by decide) rfl rfl ?_
  refine ev_if_eq (tgt := 11) dX5_tear_4 (by decide) (by omega) (fun c4 => ?_) (fun c4 => ?_)
  · refine ev_iconst dX5_tear_11 ?_
    refine ev_istore_n dX5_tear_12 (by decide) rfl ?_
    refine ev_aload_n dX5_tear_13 rfl ?_
    refine ev_iconst dX5_tear_14 ?_
    refine ev_put (ty := .boolean) 7 7 dX5_tear_15 rfl rfl flX5_248 iwX5 tyX5_ok nmX5 (by decide) rfl rfl (by decide +kernel) rfl rfl rfl ?_
    refine ev_iload_n dX5_tear_18 rfl ?_
    refine ev_iret dX5_tear_19 rfl rfl ?_
    rw [c4]
    exact ⟨rfl, sameC_rf⟩
  · refine ev_iconst dX5_tear_7 ?_
    refine ev_goto (tgt := 12) dX5_tear_8 (by decide) ?_
    refine ev_istore_n dX5_tear_12 (by decide) rfl ?_
    refine ev_aload_n dX5_tear_13 rfl ?_
    refine ev_iconst dX5_tear_14 ?_
    refine ev_put (ty := .boolean) 7 7 dX5_tear_15 rfl rfl flX5_248 iwX5 tyX5_ok nmX5 (by decide) rfl rfl (by decide +kernel) rfl rfl rfl ?_
    refine ev_iload_n dX5_tear_18 rfl ?_
    refine ev_iret dX5_tear_19 rfl rfl ?_
    rw [show σ 0 7 = 1 by omega]
    exact ⟨rfl, sameC_rf⟩
def sc_count (σ : ev_M) (w : Int) : Int × ev_M := if 0 ≤ w ∧ w ≤ 3 then (if w = 0 then σ 1 3 else if w = 1 then σ 34 1 else if w = 2 then σ 1 8 else sm (σ 4) (σ 1 3).toNat, σ) else (-1000000001, fnd σ 0)
theorem c_X5_count {b : ev_B} {σ : ev_M} {w : Int} (H : okP (wn σ 1)) (h1 : (-2147483648 ≤ w ∧ w < 2147483648)) : Cl b mX5_count [vR 0, vI w] σ (fun r τ => r = some (vI (sc_count σ w).1) ∧ sameC (sc_count σ w).2 τ) := by
  refine ev_enter okX5_count.1 (Nat.le_of_ble_eq_true rfl) ?_
  unfold sc_count
  refine ev_iload_n dX5_count_0 rfl ?_
  -- switch 1
  by_cases hw : 0 ≤ w ∧ w ≤ 3
  · rw [if_pos (by omega)]
    rcases (show w = 0 ∨ w = 1 ∨ w = 2 ∨ w = 3 by omega) with rfl | rfl | rfl | rfl
    · refine ev_tableIn (off := 31) (tgt := 32) dX5_count_1 (by omega) (by omega) (by omega) (by decide) (by decide) ?_
      refine ev_aload_n dX5_count_32 rfl ?_
      refine ev_getr 0 dX5_count_33 rfl rfl flX5_10 iwX5 (by decide) rfl ?_
      refine ev_geti 3 3 dX5_count_36 rfl rfl flX5_79 iwX2 (by decide) rfl rfl ?_
      refine ev_iret dX5_count_39 rfl rfl ?_
      exact ⟨rfl, sameC_rf⟩
    · refine ev_tableIn (off := 39) (tgt := 40) dX5_count_1 (by omega) (by omega) (by omega) (by decide) (by decide) ?_
      refine ev_aload_n dX5_count_40 rfl ?_
      refine ev_getr 4 dX5_count_41 rfl rfl flX5_32 iwX5 (by decide) rfl ?_
      refine ev_geti 1 1 dX5_count_44 rfl rfl flX5_198 iwX4 (by decide) rfl rfl ?_
      refine ev_iret dX5_count_47 rfl rfl ?_
      exact ⟨rfl, sameC_rf⟩
    · refine ev_tableIn (off := 47) (tgt := 48) dX5_count_1 (by omega) (by omega) (by omega) (by decide) (by decide) ?_
      refine ev_aload_n dX5_count_48 rfl ?_
      refine ev_getr 0 dX5_count_49 rfl rfl flX5_10 iwX5 (by decide) rfl ?_
      refine ev_geti 8 8 dX5_count_52 rfl rfl flX5_121 iwX2 (by decide) rfl rfl ?_
      refine ev_iret dX5_count_55 rfl rfl ?_
      exact ⟨rfl, sameC_rf⟩
    · refine ev_tableIn (off := 55) (tgt := 56) dX5_count_1 (by omega) (by omega) (by omega) (by decide) (by decide) ?_
      refine ev_aload_n dX5_count_56 rfl ?_
      refine ev_getr 0 dX5_count_57 rfl rfl flX5_10 iwX5 (by decide) rfl ?_
      refine ev_V1 (c_X2_temperOfAll hP1 H) okX2_temperOfAll dX5_count_60 mlX5_252 rfl rfl ⟨by decide, by decide⟩ rfl (Nat.le_of_ble_eq_true rfl) ?_
      refine ev_iret dX5_count_63 rfl rfl ?_
      exact ⟨rfl, sameC_rf⟩
  · rw [if_neg (by omega)]
    refine ev_tableOut (tgt := 64) dX5_count_1 (by omega) (by omega) (by decide) ?_
    refine ev_aload_n dX5_count_64 rfl ?_
    refine ev_iconst dX5_count_65 ?_
    refine ev_V1 (c_X5_finding (by omega)) okX5_finding dX5_count_66 mlX5_55 rfl rfl ⟨by decide, by decide⟩ rfl (Nat.le_of_ble_eq_true rfl) ?_
    refine ev_iret dX5_count_69 rfl rfl ?_
    exact ⟨rfl, sameC_rf⟩
def sc_status (σ : ev_M) (w : Int) : Int × ev_M := if w = -1 then (sm (σ 45) 7, σ) else if 0 ≤ w ∧ w ≤ 6 then (σ 45 w, σ) else (-1000000001, fnd σ 0)
theorem c_X5_status {b : ev_B} {σ : ev_M} {w : Int} (h1 : (-2147483648 ≤ w ∧ w < 2147483648)) : Cl b mX5_status [vR 0, vI w] σ (fun r τ => r = some (vI (sc_status σ w).1) ∧ sameC (sc_status σ w).2 τ) := by
  refine ev_enter okX5_status.1 (Nat.le_of_ble_eq_true rfl) ?_
  unfold sc_status
  refine ev_iload_n dX5_status_0 rfl ?_
  refine ev_iconst dX5_status_1 ?_
  refine ev_icmp_ne (tgt := 15) dX5_status_2 (by decide) (by omega) (by omega) (fun c2 => ?_) (fun c2 => ?_)
  · rw [if_neg (by omega)]
    refine ev_iload_n dX5_status_15 rfl ?_
    refine ev_iconst dX5_status_16 ?_
    refine ev_bipush dX5_status_17 (by decide) ?_
    refine ev_Sbne (tgt := 31) (c_X5_isWithin (by omega) (by omega) (by omega)) okX5_isWithin dX5_status_19 mlX5_51 ⟨by decide, by decide⟩ rfl (Nat.le_of_ble_eq_true rfl) dX5_status_22 (by decide) (fun c19 => ?_) (fun c19 => ?_)
    · rw [if_pos (by omega)]
      refine ev_aload_n dX5_status_31 rfl ?_
      refine ev_getr 6 dX5_status_32 rfl rfl flX5_42 iwX5 (by decide) rfl ?_
      refine ev_iload_n dX5_status_35 rfl ?_
      refine ev_iald dX5_status_36 rfl (by omega) ?_
      refine ev_iret dX5_status_37 rfl rfl ?_
      exact ⟨rfl, sameC_rf⟩
    · rw [if_neg (by omega)]
      refine ev_aload_n dX5_status_25 rfl ?_
      refine ev_iconst dX5_status_26 ?_
      refine ev_V1 (c_X5_finding (by omega)) okX5_finding dX5_status_27 mlX5_55 rfl rfl ⟨by decide, by decide⟩ rfl (Nat.le_of_ble_eq_true rfl) ?_
      refine ev_iret dX5_status_30 rfl rfl ?_
      exact ⟨rfl, sameC_rf⟩
  · rw [if_pos (by omega)]
    refine ev_aload_n dX5_status_5 rfl ?_
    refine ev_getr 6 dX5_status_6 rfl rfl flX5_42 iwX5 (by decide) rfl ?_
    refine ev_bipush dX5_status_9 (by decide) ?_
    refine ev_S1 (c_X5_sumOf (n := 7) (N := 7) rfl (by decide)) okX5_sumOf dX5_status_11 mlX5_255 ⟨by decide, by decide⟩ rfl (Nat.le_of_ble_eq_true rfl) ?_
    refine ev_iret dX5_status_14 rfl rfl ?_
    exact ⟨rfl, sameC_rf⟩
