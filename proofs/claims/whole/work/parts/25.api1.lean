/-! the class's own methods: what a call answers, and what it leaves in the cells that later calls show -/
def fnd (σ : ev_M) (i : Int) : ev_M := mup σ 45 i (σ 45 i + 1)
/-- all but the trial and the flock is as told -/
def sameC (σ τ : ev_M) : Prop := ∀ a : Nat, a < 19 ∨ 33 < a → τ a = σ a
theorem sameC_rf {σ : ev_M} : sameC σ σ := fun _ _ => rfl
theorem sameC_fnd {σ τ : ev_M} {i : Int} (h : sameC σ τ) : sameC (fnd σ i) (mup τ 45 i (τ 45 i + 1)) := by
  intro a ha
  funext j
  unfold fnd mup
  rw [h a ha, h 45 (by omega)]
theorem hP1 : isP 1 := Or.inl rfl
theorem hP10 : isP 10 := Or.inr (Or.inl rfl)
theorem hP19 : isP 19 := Or.inr (Or.inr rfl)
theorem okw1 {σ : ev_M} (H : okP (wn σ 1)) {c : Int} (h : 0 ≤ c ∧ c < 48) : 0 ≤ σ 2 c ∧ σ 2 c ≤ 99 := okw H h
theorem oks1 {σ : ev_M} (H : okP (wn σ 1)) {k : Int} (h : 0 ≤ k ∧ k < σ 1 3) : (0 ≤ σ 3 k ∧ σ 3 k ≤ 5) ∧ (0 ≤ σ 4 k ∧ σ 4 k ≤ 30) ∧ (0 ≤ σ 5 k ∧ σ 5 k ≤ 99) ∧ 0 ≤ σ 6 k := oks H h
theorem okl1 {σ : ev_M} (H : okP (wn σ 1)) {l : Int} (h : 0 ≤ l ∧ l < σ 1 8) : (0 ≤ σ 7 l ∧ σ 7 l < 48) ∧ (0 ≤ σ 8 l ∧ σ 8 l < σ 1 3) ∧ (0 ≤ σ 9 l ∧ σ 9 l ≤ 9999) := okl H h
def setP (σ : ev_M) (p : Nat) (P : ev_M) : ev_M := fun a i => if p ≤ a ∧ a < p + 9 then P (a - p) i else σ a i
def sc_wheat (σ : ev_M) (c v : Int) : Int × ev_M := if (0 ≤ c ∧ c ≤ 47) ∧ 0 ≤ v ∧ v ≤ 99 then (σ 2 c, mup σ 2 c v) else (-1000000001, fnd σ 0)
theorem c_X5_wheat {b : ev_B} {σ : ev_M} {c v : Int} (h1 : (-2147483648 ≤ c ∧ c < 2147483648)) (h2 : (-2147483648 ≤ v ∧ v < 2147483648)) : Cl b mX5_wheat [vR 0, vI c, vI v] σ (fun r τ => r = some (vI (sc_wheat σ c v).1) ∧ sameC (sc_wheat σ c v).2 τ) := by
  refine ev_enter okX5_wheat.1 (Nat.le_of_ble_eq_true rfl) ?_
  unfold sc_wheat
  refine ev_iload_n dX5_wheat_0 rfl ?_
  refine ev_Sbeq (tgt := 17) (c_X5_isCell (by omega)) okX5_isCell dX5_wheat_1 mlX5_47 ⟨by decide, by decide⟩ rfl (Nat.le_of_ble_eq_true rfl) dX5_wheat_4 (by decide) (fun c1 => ?_) (fun c1 => ?_)
  · refine ev_aload_n dX5_wheat_17 rfl ?_
    refine ev_iconst dX5_wheat_18 ?_
    refine ev_V1 (c_X5_finding (by omega)) okX5_finding dX5_wheat_19 mlX5_55 rfl rfl ⟨by decide, by decide⟩ rfl (Nat.le_of_ble_eq_true rfl) ?_
    refine ev_iret dX5_wheat_22 rfl rfl ?_
    first | (exfalso; omega) | ((repeat (first | rw [if_pos (by omega)] | rw [if_neg (by omega)])); exact ⟨rfl, sameC_rf⟩)
  · refine ev_iload_n dX5_wheat_7 rfl ?_
    refine ev_iconst dX5_wheat_8 ?_
    refine ev_bipush dX5_wheat_9 (by decide) ?_
    refine ev_Sbne (tgt := 23) (c_X5_isWithin (by omega) (by omega) (by omega)) okX5_isWithin dX5_wheat_11 mlX5_51 ⟨by decide, by decide⟩ rfl (Nat.le_of_ble_eq_true rfl) dX5_wheat_14 (by decide) (fun c11 => ?_) (fun c11 => ?_)
    · refine ev_aload_n dX5_wheat_23 rfl ?_
      refine ev_getr 0 dX5_wheat_24 rfl rfl flX5_10 iwX5 (by decide) rfl ?_
      refine ev_getr 0 dX5_wheat_27 rfl rfl flX5_59 iwX2 (by decide) rfl ?_
      refine ev_iload_n dX5_wheat_30 rfl ?_
      refine ev_iald dX5_wheat_31 rfl (by omega) ?_
      refine ev_istore_n dX5_wheat_32 (by decide) rfl ?_
      refine ev_aload_n dX5_wheat_33 rfl ?_
      refine ev_getr 0 dX5_wheat_34 rfl rfl flX5_10 iwX5 (by decide) rfl ?_
      refine ev_getr 0 dX5_wheat_37 rfl rfl flX5_59 iwX2 (by decide) rfl ?_
      refine ev_iload_n dX5_wheat_40 rfl ?_
      refine ev_iload_n dX5_wheat_41 rfl ?_
      refine ev_iast dX5_wheat_42 rfl (by omega) ?_
      refine ev_iload_n dX5_wheat_43 rfl ?_
      refine ev_iret dX5_wheat_44 rfl rfl ?_
      first | (exfalso; omega) | ((repeat (first | rw [if_pos (by omega)] | rw [if_neg (by omega)])); exact ⟨rfl, sameC_rf⟩)
    · refine ev_aload_n dX5_wheat_17 rfl ?_
      refine ev_iconst dX5_wheat_18 ?_
      refine ev_V1 (c_X5_finding (by omega)) okX5_finding dX5_wheat_19 mlX5_55 rfl rfl ⟨by decide, by decide⟩ rfl (Nat.le_of_ble_eq_true rfl) ?_
      refine ev_iret dX5_wheat_22 rfl rfl ?_
      first | (exfalso; omega) | ((repeat (first | rw [if_pos (by omega)] | rw [if_neg (by omega)])); exact ⟨rfl, sameC_rf⟩)
def sc_crows (σ : ev_M) (v : Int) : Int × ev_M := if 0 ≤ v ∧ v ≤ 20 then (σ 1 1, mup σ 1 1 v) else (-1000000001, fnd σ 0)
theorem c_X5_crows {b : ev_B} {σ : ev_M} {v : Int} (h2 : (-2147483648 ≤ v ∧ v < 2147483648)) : Cl b mX5_crows [vR 0, vI v] σ (fun r τ => r = some (vI (sc_crows σ v).1) ∧ sameC (sc_crows σ v).2 τ) := by
  refine ev_enter okX5_crows.1 (Nat.le_of_ble_eq_true rfl) ?_
  unfold sc_crows
  refine ev_iload_n dX5_crows_0 rfl ?_
  refine ev_iconst dX5_crows_1 ?_
  refine ev_bipush dX5_crows_2 (by decide) ?_
  refine ev_Sbne (tgt := 16) (c_X5_isWithin (by omega) (by omega) (by omega)) okX5_isWithin dX5_crows_4 mlX5_51 ⟨by decide, by decide⟩ rfl (Nat.le_of_ble_eq_true rfl) dX5_crows_7 (by decide) (fun c4 => ?_) (fun c4 => ?_)
  · refine ev_aload_n dX5_crows_16 rfl ?_
    refine ev_getr 0 dX5_crows_17 rfl rfl flX5_10 iwX5 (by decide) rfl ?_
    refine ev_geti 1 1 dX5_crows_20 rfl rfl flX5_72 iwX2 (by decide) rfl rfl ?_
    refine ev_istore_n dX5_crows_23 (by decide) rfl ?_
    refine ev_aload_n dX5_crows_24 rfl ?_
    refine ev_getr 0 dX5_crows_25 rfl rfl flX5_10 iwX5 (by decide) rfl ?_
    refine ev_iload_n dX5_crows_28 rfl ?_
    refine ev_put (ty := .int) 1 1 dX5_crows_29 rfl rfl flX5_72 iwX2 tyX2_ok nmX2 (by decide) rfl rfl (by decide +kernel) rfl rfl rfl ?_
    refine ev_iload_n dX5_crows_32 rfl ?_
    refine ev_iret dX5_crows_33 rfl rfl ?_
    first | (exfalso; omega) | ((repeat (first | rw [if_pos (by omega)] | rw [if_neg (by omega)])); exact ⟨rfl, sameC_rf⟩)
  · refine ev_aload_n dX5_crows_10 rfl ?_
    refine ev_iconst dX5_crows_11 ?_
    refine ev_V1 (c_X5_finding (by omega)) okX5_finding dX5_crows_12 mlX5_55 rfl rfl ⟨by decide, by decide⟩ rfl (Nat.le_of_ble_eq_true rfl) ?_
    refine ev_iret dX5_crows_15 rfl rfl ?_
    first | (exfalso; omega) | ((repeat (first | rw [if_pos (by omega)] | rw [if_neg (by omega)])); exact ⟨rfl, sameC_rf⟩)
def sc_cell (σ : ev_M) (c w : Int) : Int × ev_M := if (0 ≤ c ∧ c ≤ 47) ∧ 0 ≤ w ∧ w ≤ 2 then (if w = 0 then σ 2 c else if w = 1 then 1000 + fear (wn σ 1) allp c else stf (fun l => decide (σ 7 l = c)) (σ 1 8).toNat, σ) else (-1000000001, fnd σ 0)
theorem c_X5_cell {b : ev_B} {σ : ev_M} {c w : Int} (H : okP (wn σ 1)) (h1 : (-2147483648 ≤ c ∧ c < 2147483648)) (h2 : (-2147483648 ≤ w ∧ w < 2147483648)) : Cl b mX5_cell [vR 0, vI c, vI w] σ (fun r τ => r = some (vI (sc_cell σ c w).1) ∧ sameC (sc_cell σ c w).2 τ) := by
  refine ev_enter okX5_cell.1 (Nat.le_of_ble_eq_true rfl) ?_
  unfold sc_cell
  have h0 := ok0 H
  refine ev_iload_n dX5_cell_0 rfl ?_
  refine ev_Sbne (tgt := 13) (c_X5_isCell (by omega)) okX5_isCell dX5_cell_1 mlX5_47 ⟨by decide, by decide⟩ rfl (Nat.le_of_ble_eq_true rfl) dX5_cell_4 (by decide) (fun c1 => ?_) (fun c1 => ?_)
  · refine ev_iload_n dX5_cell_13 rfl ?_
    -- switch 14
    by_cases hw : 0 ≤ w ∧ w ≤ 2
    · rw [if_pos (by omega)]
      rcases (show w = 0 ∨ w = 1 ∨ w = 2 by omega) with rfl | rfl | rfl
      · refine ev_tableIn (off := 26) (tgt := 40) dX5_cell_14 (by omega) (by omega) (by omega) (by decide) (by decide) ?_
        refine ev_aload_n dX5_cell_40 rfl ?_
        refine ev_getr 0 dX5_cell_41 rfl rfl flX5_10 iwX5 (by decide) rfl ?_
        refine ev_getr 0 dX5_cell_44 rfl rfl flX5_59 iwX2 (by decide) rfl ?_
        refine ev_iload_n dX5_cell_47 rfl ?_
        refine ev_iald dX5_cell_48 rfl (by omega) ?_
        refine ev_iret dX5_cell_49 rfl rfl ?_
        exact ⟨rfl, sameC_rf⟩
      · refine ev_tableIn (off := 36) (tgt := 50) dX5_cell_14 (by omega) (by omega) (by omega) (by decide) (by decide) ?_
        refine ev_aload_n dX5_cell_50 rfl ?_
        refine ev_getr 3 dX5_cell_51 rfl rfl flX5_25 iwX5 (by decide) rfl ?_
        refine ev_aload_n dX5_cell_54 rfl ?_
        refine ev_getr 0 dX5_cell_55 rfl rfl flX5_10 iwX5 (by decide) rfl ?_
        refine ev_callV (c_X0_look hP1 H) okX0_look dX5_cell_58 mlX5_62 rfl rfl ⟨by decide, by decide⟩ rfl (Nat.le_of_ble_eq_true rfl) (fun r58 τ58 h58 => ?_)
        obtain ⟨rfl, g1, g2, g3⟩ := h58
        have ew : wn τ58 1 = wn σ 1 := wn_congr (fun j hj => g3 (1 + j) (by omega))
        refine ev_sipush dX5_cell_61 (by decide) ?_
        refine ev_aload_n dX5_cell_64 rfl ?_
        refine ev_getr 3 dX5_cell_65 rfl rfl flX5_25 iwX5 (by decide) rfl ?_
        refine ev_getr 0 dX5_cell_68 rfl rfl flX5_66 iwX0 (by decide) rfl ?_
        refine ev_iload_n dX5_cell_71 rfl ?_
        refine ev_iald dX5_cell_72 rfl (by omega) ?_
        refine ev_iadd dX5_cell_73 ?_
        refine ev_iret dX5_cell_74 rfl rfl ?_
        refine ⟨?_, fun a ha => g3 a (by omega)⟩
        rw [FO_fear (by rw [ew]; exact H) g1 g2 (by omega), ew]
        rfl
      · refine ev_tableIn (off := 61) (tgt := 75) dX5_cell_14 (by omega) (by omega) (by omega) (by decide) (by decide) ?_
        refine ev_aload_n dX5_cell_75 rfl ?_
        refine ev_getr 0 dX5_cell_76 rfl rfl flX5_10 iwX5 (by decide) rfl ?_
        refine ev_iload_n dX5_cell_79 rfl ?_
        refine ev_V1 (c_X2_likenessesAt hP1 H (by omega)) okX2_likenessesAt dX5_cell_80 mlX5_69 rfl rfl ⟨by decide, by decide⟩ rfl (Nat.le_of_ble_eq_true rfl) ?_
        refine ev_iret dX5_cell_83 rfl rfl ?_
        exact ⟨rfl, sameC_rf⟩
    · rw [if_neg (by omega)]
      refine ev_tableOut (tgt := 84) dX5_cell_14 (by omega) (by omega) (by decide) ?_
      refine ev_aload_n dX5_cell_84 rfl ?_
      refine ev_iconst dX5_cell_85 ?_
      refine ev_V1 (c_X5_finding (by omega)) okX5_finding dX5_cell_86 mlX5_55 rfl rfl ⟨by decide, by decide⟩ rfl (Nat.le_of_ble_eq_true rfl) ?_
      refine ev_iret dX5_cell_89 rfl rfl ?_
      exact ⟨rfl, sameC_rf⟩
  · rw [if_neg (by omega)]
    refine ev_aload_n dX5_cell_7 rfl ?_
    refine ev_iconst dX5_cell_8 ?_
    refine ev_V1 (c_X5_finding (by omega)) okX5_finding dX5_cell_9 mlX5_55 rfl rfl ⟨by decide, by decide⟩ rfl (Nat.le_of_ble_eq_true rfl) ?_
    refine ev_iret dX5_cell_12 rfl rfl ?_
    exact ⟨rfl, sameC_rf⟩
def addS (σ : ev_M) (p : Nat) (k : Int) : ev_M := mup (mup (mup (mup (mup σ (p + 2) (σ p 3) k) (p + 3) (σ p 3) 10) (p + 4) (σ p 3) 5) (p + 5) (σ p 3) (σ p 2)) p 3 (σ p 3 + 1)
def sc_sitter (σ : ev_M) (k : Int) : Int × ev_M := if 0 ≤ k ∧ k ≤ 5 then (if σ 1 3 < 6 then (σ 1 3, addS σ 1 k) else (-1000000002, fnd σ 1)) else (-1000000001, fnd σ 0)
theorem c_X5_sitter {b : ev_B} {σ : ev_M} {k : Int} (H : okP (wn σ 1)) (h1 : (-2147483648 ≤ k ∧ k < 2147483648)) : Cl b mX5_sitter [vR 0, vI k] σ (fun r τ => r = some (vI (sc_sitter σ k).1) ∧ sameC (sc_sitter σ k).2 τ) := by
  refine ev_enter okX5_sitter.1 (Nat.le_of_ble_eq_true rfl) ?_
  unfold sc_sitter
  have h0 := ok0 H
  refine ev_iload_n dX5_sitter_0 rfl ?_
  refine ev_Sbne (tgt := 13) (c_X5_isKind (by omega)) okX5_isKind dX5_sitter_1 mlX5_76 ⟨by decide, by decide⟩ rfl (Nat.le_of_ble_eq_true rfl) dX5_sitter_4 (by decide) (fun c1 => ?_) (fun c1 => ?_)
  · refine ev_aload_n dX5_sitter_13 rfl ?_
    refine ev_getr 0 dX5_sitter_14 rfl rfl flX5_10 iwX5 (by decide) rfl ?_
    refine ev_geti 3 3 dX5_sitter_17 rfl rfl flX5_79 iwX2 (by decide) rfl rfl ?_
    refine ev_bipush dX5_sitter_20 (by decide) ?_
    refine ev_icmp_lt (tgt := 31) dX5_sitter_22 (by decide) (by omega) (by omega) (fun c22 => ?_) (fun c22 => ?_)
    · refine ev_aload_n dX5_sitter_31 rfl ?_
      refine ev_getr 0 dX5_sitter_32 rfl rfl flX5_10 iwX5 (by decide) rfl ?_
      refine ev_iload_n dX5_sitter_35 rfl ?_
      refine ev_V1 (c_X2_addSitter hP1 (by omega)) okX2_addSitter dX5_sitter_36 mlX5_82 rfl rfl ⟨by decide, by decide⟩ rfl (Nat.le_of_ble_eq_true rfl) ?_
      refine ev_iret dX5_sitter_39 rfl rfl ?_
      first | (exfalso; omega) | ((repeat (first | rw [if_pos (by omega)] | rw [if_neg (by omega)])); exact ⟨rfl, sameC_rf⟩)
    · refine ev_aload_n dX5_sitter_25 rfl ?_
      refine ev_iconst dX5_sitter_26 ?_
      refine ev_V1 (c_X5_finding (by omega)) okX5_finding dX5_sitter_27 mlX5_55 rfl rfl ⟨by decide, by decide⟩ rfl (Nat.le_of_ble_eq_true rfl) ?_
      refine ev_iret dX5_sitter_30 rfl rfl ?_
      first | (exfalso; omega) | ((repeat (first | rw [if_pos (by omega)] | rw [if_neg (by omega)])); exact ⟨rfl, sameC_rf⟩)
  · refine ev_aload_n dX5_sitter_7 rfl ?_
    refine ev_iconst dX5_sitter_8 ?_
    refine ev_V1 (c_X5_finding (by omega)) okX5_finding dX5_sitter_9 mlX5_55 rfl rfl ⟨by decide, by decide⟩ rfl (Nat.le_of_ble_eq_true rfl) ?_
    refine ev_iret dX5_sitter_12 rfl rfl ?_
    first | (exfalso; omega) | ((repeat (first | rw [if_pos (by omega)] | rw [if_neg (by omega)])); exact ⟨rfl, sameC_rf⟩)
def sc_turn (σ : ev_M) (s k : Int) : Int × ev_M := if (0 ≤ s ∧ s ≤ σ 1 3 - 1) ∧ 0 ≤ k ∧ k ≤ 5 then (σ 3 s, mup σ 3 s k) else (-1000000001, fnd σ 0)
theorem c_X5_turn {b : ev_B} {σ : ev_M} {s k : Int} (H : okP (wn σ 1)) (h1 : (-2147483648 ≤ s ∧ s < 2147483648)) (h2 : (-2147483648 ≤ k ∧ k < 2147483648)) : Cl b mX5_turn [vR 0, vI s, vI k] σ (fun r τ => r = some (vI (sc_turn σ s k).1) ∧ sameC (sc_turn σ s k).2 τ) := by
  refine ev_enter okX5_turn.1 (Nat.le_of_ble_eq_true rfl) ?_
  unfold sc_turn
  have h0 := ok0 H
  refine ev_aload_n dX5_turn_0 rfl ?_
  refine ev_iload_n dX5_turn_1 rfl ?_
  refine ev_Vbeq (tgt := 15) (c_X5_isSitter (by omega) (by omega)) okX5_isSitter dX5_turn_2 mlX5_85 rfl rfl ⟨by decide, by decide⟩ rfl (Nat.le_of_ble_eq_true rfl) dX5_turn_5 (by decide) (fun c2 => ?_) (fun c2 => ?_)
  · refine ev_aload_n dX5_turn_15 rfl ?_
    refine ev_iconst dX5_turn_16 ?_
    refine ev_V1 (c_X5_finding (by omega)) okX5_finding dX5_turn_17 mlX5_55 rfl rfl ⟨by decide, by decide⟩ rfl (Nat.le_of_ble_eq_true rfl) ?_
    refine ev_iret dX5_turn_20 rfl rfl ?_
    first | (exfalso; omega) | ((repeat (first | rw [if_pos (by omega)] | rw [if_neg (by omega)])); exact ⟨rfl, sameC_rf⟩)
  · refine ev_iload_n dX5_turn_8 rfl ?_
    refine ev_Sbne (tgt := 21) (c_X5_isKind (by omega)) okX5_isKind dX5_turn_9 mlX5_76 ⟨by decide, by decide⟩ rfl (Nat.le_of_ble_eq_true rfl) dX5_turn_12 (by decide) (fun c9 => ?_) (fun c9 => ?_)
    · refine ev_aload_n dX5_turn_21 rfl ?_
      refine ev_getr 0 dX5_turn_22 rfl rfl flX5_10 iwX5 (by decide) rfl ?_
      refine ev_getr 4 dX5_turn_25 rfl rfl flX5_88 iwX2 (by decide) rfl ?_
      refine ev_iload_n dX5_turn_28 rfl ?_
      refine ev_iload_n dX5_turn_29 rfl ?_
      refine ev_S1 (c_X5_exchange (r := 3) (n := 6) rfl (by omega)) okX5_exchange dX5_turn_30 mlX5_111 ⟨by decide, by decide⟩ rfl (Nat.le_of_ble_eq_true rfl) ?_
      refine ev_iret dX5_turn_33 rfl rfl ?_
      first | (exfalso; omega) | ((repeat (first | rw [if_pos (by omega)] | rw [if_neg (by omega)])); exact ⟨rfl, sameC_rf⟩)
    · refine ev_aload_n dX5_turn_15 rfl ?_
      refine ev_iconst dX5_turn_16 ?_
      refine ev_V1 (c_X5_finding (by omega)) okX5_finding dX5_turn_17 mlX5_55 rfl rfl ⟨by decide, by decide⟩ rfl (Nat.le_of_ble_eq_true rfl) ?_
      refine ev_iret dX5_turn_20 rfl rfl ?_
      first | (exfalso; omega) | ((repeat (first | rw [if_pos (by omega)] | rw [if_neg (by omega)])); exact ⟨rfl, sameC_rf⟩)
def sc_as (σ : ev_M) (s k : Int) : Int × ev_M := if (0 ≤ s ∧ s ≤ σ 1 3 - 1) ∧ 0 ≤ k ∧ k ≤ 5 then (if k = 0 ∨ σ 3 s = k ∨ (3 < σ 3 s ∧ σ 3 s - 2 = k) then (σ 4 s, σ) else (-1000000003, fnd σ 2)) else (-1000000001, fnd σ 0)
theorem c_X5_as {b : ev_B} {σ : ev_M} {s k : Int} (H : okP (wn σ 1)) (h1 : (-2147483648 ≤ s ∧ s < 2147483648)) (h2 : (-2147483648 ≤ k ∧ k < 2147483648)) : Cl b mX5_as [vR 0, vI s, vI k] σ (fun r τ => r = some (vI (sc_as σ s k).1) ∧ sameC (sc_as σ s k).2 τ) := by
  refine ev_enter okX5_as.1 (Nat.le_of_ble_eq_true rfl) ?_
  unfold sc_as
  have h0 := ok0 H
  refine ev_aload_n dX5_as_0 rfl ?_
  refine ev_iload_n dX5_as_1 rfl ?_
  refine ev_Vbeq (tgt := 15) (c_X5_isSitter (by omega) (by omega)) okX5_isSitter dX5_as_2 mlX5_85 rfl rfl ⟨by decide, by decide⟩ rfl (Nat.le_of_ble_eq_true rfl) dX5_as_5 (by decide) (fun c2 => ?_) (fun c2 => ?_)
  · rw [if_neg (by omega)]
    refine ev_aload_n dX5_as_15 rfl ?_
    refine ev_iconst dX5_as_16 ?_
    refine ev_V1 (c_X5_finding (by omega)) okX5_finding dX5_as_17 mlX5_55 rfl rfl ⟨by decide, by decide⟩ rfl (Nat.le_of_ble_eq_true rfl) ?_
    refine ev_iret dX5_as_20 rfl rfl ?_
    exact ⟨rfl, sameC_rf⟩
  · refine ev_iload_n dX5_as_8 rfl ?_
    refine ev_Sbne (tgt := 21) (c_X5_isKind (by omega)) okX5_isKind dX5_as_9 mlX5_76 ⟨by decide, by decide⟩ rfl (Nat.le_of_ble_eq_true rfl) dX5_as_12 (by decide) (fun c9 => ?_) (fun c9 => ?_)
    · have q := oks1 H (k := s) (by omega)
      rw [if_pos (by omega)]
      refine ev_aload_n dX5_as_21 rfl ?_
      refine ev_getr 0 dX5_as_22 rfl rfl flX5_10 iwX5 (by decide) rfl ?_
      refine ev_getr 4 dX5_as_25 rfl rfl flX5_88 iwX2 (by decide) rfl ?_
      refine ev_iload_n dX5_as_28 rfl ?_
      refine ev_iald dX5_as_29 rfl (by omega) ?_
      refine ev_iload_n dX5_as_30 rfl ?_
      refine ev_Sbne (tgt := 43) (c_X1_isUnder (by omega) (by omega)) okX1_isUnder dX5_as_31 mlX5_115 ⟨by decide, by decide⟩ rfl (Nat.le_of_ble_eq_true rfl) dX5_as_34 (by decide) (fun c31 => ?_) (fun c31 => ?_)
      · rw [if_pos (by omega)]
        refine ev_aload_n dX5_as_43 rfl ?_
        refine ev_getr 0 dX5_as_44 rfl rfl flX5_10 iwX5 (by decide) rfl ?_
        refine ev_getr 5 dX5_as_47 rfl rfl flX5_91 iwX2 (by decide) rfl ?_
        refine ev_iload_n dX5_as_50 rfl ?_
        refine ev_iald dX5_as_51 rfl (by omega) ?_
        refine ev_iret dX5_as_52 rfl rfl ?_
        exact ⟨rfl, sameC_rf⟩
      · rw [if_neg (by omega)]
        refine ev_aload_n dX5_as_37 rfl ?_
        refine ev_iconst dX5_as_38 ?_
        refine ev_V1 (c_X5_finding (by omega)) okX5_finding dX5_as_39 mlX5_55 rfl rfl ⟨by decide, by decide⟩ rfl (Nat.le_of_ble_eq_true rfl) ?_
        refine ev_iret dX5_as_42 rfl rfl ?_
        exact ⟨rfl, sameC_rf⟩
    · rw [if_neg (by omega)]
      refine ev_aload_n dX5_as_15 rfl ?_
      refine ev_iconst dX5_as_16 ?_
      refine ev_V1 (c_X5_finding (by omega)) okX5_finding dX5_as_17 mlX5_55 rfl rfl ⟨by decide, by decide⟩ rfl (Nat.le_of_ble_eq_true rfl) ?_
      refine ev_iret dX5_as_20 rfl rfl ?_
      exact ⟨rfl, sameC_rf⟩
def sc_set (σ : ev_M) (s w v : Int) : Int × ev_M := if (0 ≤ s ∧ s ≤ σ 1 3 - 1) ∧ w = 1 ∧ 0 ≤ v ∧ v ≤ 30 then (σ 4 s, mup σ 4 s v) else if (0 ≤ s ∧ s ≤ σ 1 3 - 1) ∧ w = 2 ∧ 0 ≤ v ∧ v ≤ 99 then (σ 5 s, mup σ 5 s v) else (-1000000001, fnd σ 0)
theorem c_X5_set {b : ev_B} {σ : ev_M} {s w v : Int} (H : okP (wn σ 1)) (h1 : (-2147483648 ≤ s ∧ s < 2147483648)) (h2 : (-2147483648 ≤ w ∧ w < 2147483648)) (h3 : (-2147483648 ≤ v ∧ v < 2147483648)) : Cl b mX5_set [vR 0, vI s, vI w, vI v] σ (fun r τ => r = some (vI (sc_set σ s w v).1) ∧ sameC (sc_set σ s w v).2 τ) := by
  refine ev_enter okX5_set.1 (Nat.le_of_ble_eq_true rfl) ?_
  unfold sc_set
  have h0 := ok0 H
  refine ev_aload_n dX5_set_0 rfl ?_
  refine ev_iload_n dX5_set_1 rfl ?_
  refine ev_Vbne (tgt := 14) (c_X5_isSitter (by omega) (by omega)) okX5_isSitter dX5_set_2 mlX5_85 rfl rfl ⟨by decide, by decide⟩ rfl (Nat.le_of_ble_eq_true rfl) dX5_set_5 (by decide) (fun c2 => ?_) (fun c2 => ?_)
  · refine ev_iload_n dX5_set_14 rfl ?_
    refine ev_iconst dX5_set_15 ?_
    refine ev_icmp_ne (tgt := 42) dX5_set_16 (by decide) (by omega) (by omega) (fun c16 => ?_) (fun c16 => ?_)
    · refine ev_iload_n dX5_set_42 rfl ?_
      refine ev_iconst dX5_set_43 ?_
      refine ev_icmp_ne (tgt := 70) dX5_set_44 (by decide) (by omega) (by omega) (fun c44 => ?_) (fun c44 => ?_)
      · refine ev_aload_n dX5_set_70 rfl ?_
        refine ev_iconst dX5_set_71 ?_
        refine ev_V1 (c_X5_finding (by omega)) okX5_finding dX5_set_72 mlX5_55 rfl rfl ⟨by decide, by decide⟩ rfl (Nat.le_of_ble_eq_true rfl) ?_
        refine ev_iret dX5_set_75 rfl rfl ?_
        first | (exfalso; omega) | ((repeat (first | rw [if_pos (by omega)] | rw [if_neg (by omega)])); exact ⟨rfl, sameC_rf⟩)
      · refine ev_iload_n dX5_set_47 rfl ?_
        refine ev_iconst dX5_set_48 ?_
        refine ev_bipush dX5_set_49 (by decide) ?_
        refine ev_Sbeq (tgt := 70) (c_X5_isWithin (by omega) (by omega) (by omega)) okX5_isWithin dX5_set_51 mlX5_51 ⟨by decide, by decide⟩ rfl (Nat.le_of_ble_eq_true rfl) dX5_set_54 (by decide) (fun c51 => ?_) (fun c51 => ?_)
        · refine ev_aload_n dX5_set_70 rfl ?_
          refine ev_iconst dX5_set_71 ?_
          refine ev_V1 (c_X5_finding (by omega)) okX5_finding dX5_set_72 mlX5_55 rfl rfl ⟨by decide, by decide⟩ rfl (Nat.le_of_ble_eq_true rfl) ?_
          refine ev_iret dX5_set_75 rfl rfl ?_
          first | (exfalso; omega) | ((repeat (first | rw [if_pos (by omega)] | rw [if_neg (by omega)])); exact ⟨rfl, sameC_rf⟩)
        · refine ev_aload_n dX5_set_57 rfl ?_
          refine ev_getr 0 dX5_set_58 rfl rfl flX5_10 iwX5 (by decide) rfl ?_
          refine ev_getr 6 dX5_set_61 rfl rfl flX5_94 iwX2 (by decide) rfl ?_
          refine ev_iload_n dX5_set_64 rfl ?_
          refine ev_iload_n dX5_set_65 rfl ?_
          refine ev_S1 (c_X5_exchange (r := 5) (n := 6) rfl (by omega)) okX5_exchange dX5_set_66 mlX5_111 ⟨by decide, by decide⟩ rfl (Nat.le_of_ble_eq_true rfl) ?_
          refine ev_iret dX5_set_69 rfl rfl ?_
          first | (exfalso; omega) | ((repeat (first | rw [if_pos (by omega)] | rw [if_neg (by omega)])); exact ⟨rfl, sameC_rf⟩)
    · refine ev_iload_n dX5_set_19 rfl ?_
      refine ev_iconst dX5_set_20 ?_
      refine ev_bipush dX5_set_21 (by decide) ?_
      refine ev_Sbeq (tgt := 42) (c_X5_isWithin (by omega) (by omega) (by omega)) okX5_isWithin dX5_set_23 mlX5_51 ⟨by decide, by decide⟩ rfl (Nat.le_of_ble_eq_true rfl) dX5_set_26 (by decide) (fun c23 => ?_) (fun c23 => ?_)
      · refine ev_iload_n dX5_set_42 rfl ?_
        refine ev_iconst dX5_set_43 ?_
        refine ev_icmp_ne (tgt := 70) dX5_set_44 (by decide) (by omega) (by omega) (fun c44 => ?_) (fun c44 => ?_)
        · refine ev_aload_n dX5_set_70 rfl ?_
          refine ev_iconst dX5_set_71 ?_
          refine ev_V1 (c_X5_finding (by omega)) okX5_finding dX5_set_72 mlX5_55 rfl rfl ⟨by decide, by decide⟩ rfl (Nat.le_of_ble_eq_true rfl) ?_
          refine ev_iret dX5_set_75 rfl rfl ?_
          first | (exfalso; omega) | ((repeat (first | rw [if_pos (by omega)] | rw [if_neg (by omega)])); exact ⟨rfl, sameC_rf⟩)
        · refine ev_iload_n dX5_set_47 rfl ?_
          refine ev_iconst dX5_set_48 ?_
          refine ev_bipush dX5_set_49 (by decide) ?_
          refine ev_Sbeq (tgt := 70) (c_X5_isWithin (by omega) (by omega) (by omega)) okX5_isWithin dX5_set_51 mlX5_51 ⟨by decide, by decide⟩ rfl (Nat.le_of_ble_eq_true rfl) dX5_set_54 (by decide) (fun c51 => ?_) (fun c51 => ?_)
          · refine ev_aload_n dX5_set_70 rfl ?_
            refine ev_iconst dX5_set_71 ?_
            refine ev_V1 (c_X5_finding (by omega)) okX5_finding dX5_set_72 mlX5_55 rfl rfl ⟨by decide, by decide⟩ rfl (Nat.le_of_ble_eq_true rfl) ?_
            refine ev_iret dX5_set_75 rfl rfl ?_
            first | (exfalso; omega) | ((repeat (first | rw [if_pos (by omega)] | rw [if_neg (by omega)])); exact ⟨rfl, sameC_rf⟩)
          · refine ev_aload_n dX5_set_57 rfl ?_
            refine ev_getr 0 dX5_set_58 rfl rfl flX5_10 iwX5 (by decide) rfl ?_
            refine ev_getr 6 dX5_set_61 rfl rfl flX5_94 iwX2 (by decide) rfl ?_
            refine ev_iload_n dX5_set_64 rfl ?_
            refine ev_iload_n dX5_set_65 rfl ?_
            refine ev_S1 (c_X5_exchange (r := 5) (n := 6) rfl (by omega)) okX5_exchange dX5_set_66 mlX5_111 ⟨by decide, by decide⟩ rfl (Nat.le_of_ble_eq_true rfl) ?_
            refine ev_iret dX5_set_69 rfl rfl ?_
            first | (exfalso; omega) | ((repeat (first | rw [if_pos (by omega)] | rw [if_neg (by omega)])); exact ⟨rfl, sameC_rf⟩)
      · refine ev_aload_n dX5_set_29 rfl ?_
        refine ev_getr 0 dX5_set_30 rfl rfl flX5_10 iwX5 (by decide) rfl ?_
        refine ev_getr 5 dX5_set_33 rfl rfl flX5_91 iwX2 (by decide) rfl ?_
        refine ev_iload_n dX5_set_36 rfl ?_
        refine ev_iload_n dX5_set_37 rfl ?_
        refine ev_S1 (c_X5_exchange (r := 4) (n := 6) rfl (by omega)) okX5_exchange dX5_set_38 mlX5_111 ⟨by decide, by decide⟩ rfl (Nat.le_of_ble_eq_true rfl) ?_
        refine ev_iret dX5_set_41 rfl rfl ?_
        first | (exfalso; omega) | ((repeat (first | rw [if_pos (by omega)] | rw [if_neg (by omega)])); exact ⟨rfl, sameC_rf⟩)
  · refine ev_aload_n dX5_set_8 rfl ?_
    refine ev_iconst dX5_set_9 ?_
    refine ev_V1 (c_X5_finding (by omega)) okX5_finding dX5_set_10 mlX5_55 rfl rfl ⟨by decide, by decide⟩ rfl (Nat.le_of_ble_eq_true rfl) ?_
    refine ev_iret dX5_set_13 rfl rfl ?_
    first | (exfalso; omega) | ((repeat (first | rw [if_pos (by omega)] | rw [if_neg (by omega)])); exact ⟨rfl, sameC_rf⟩)
def addL (σ : ev_M) (p : Nat) (k c : Int) : ev_M := mup (mup (mup (mup σ (p + 6) (σ p 8) c) (p + 7) (σ p 8) k) (p + 8) (σ p 8) 0) p 8 (σ p 8 + 1)
def sc_likeness (σ : ev_M) (s c : Int) : Int × ev_M := if (0 ≤ s ∧ s ≤ σ 1 3 - 1) ∧ 0 ≤ c ∧ c ≤ 47 then (if σ 1 8 < 8 then (σ 1 8, addL σ 1 s c) else (-1000000002, fnd σ 1)) else (-1000000001, fnd σ 0)
theorem c_X5_likeness {b : ev_B} {σ : ev_M} {s c : Int} (H : okP (wn σ 1)) (h1 : (-2147483648 ≤ s ∧ s < 2147483648)) (h2 : (-2147483648 ≤ c ∧ c < 2147483648)) : Cl b mX5_likeness [vR 0, vI s, vI c] σ (fun r τ => r = some (vI (sc_likeness σ s c).1) ∧ sameC (sc_likeness σ s c).2 τ) := by
  refine ev_enter okX5_likeness.1 (Nat.le_of_ble_eq_true rfl) ?_
  unfold sc_likeness
  have h0 := ok0 H
  refine ev_aload_n dX5_likeness_0 rfl ?_
  refine ev_iload_n dX5_likeness_1 rfl ?_
  refine ev_Vbeq (tgt := 15) (c_X5_isSitter (by omega) (by omega)) okX5_isSitter dX5_likeness_2 mlX5_85 rfl rfl ⟨by decide, by decide⟩ rfl (Nat.le_of_ble_eq_true rfl) dX5_likeness_5 (by decide) (fun c2 => ?_) (fun c2 => ?_)
  · refine ev_aload_n dX5_likeness_15 rfl ?_
    refine ev_iconst dX5_likeness_16 ?_
    refine ev_V1 (c_X5_finding (by omega)) okX5_finding dX5_likeness_17 mlX5_55 rfl rfl ⟨by decide, by decide⟩ rfl (Nat.le_of_ble_eq_true rfl) ?_
    refine ev_iret dX5_likeness_20 rfl rfl ?_
    first | (exfalso; omega) | ((repeat (first | rw [if_pos (by omega)] | rw [if_neg (by omega)])); exact ⟨rfl, sameC_rf⟩)
  · refine ev_iload_n dX5_likeness_8 rfl ?_
    refine ev_Sbne (tgt := 21) (c_X5_isCell (by omega)) okX5_isCell dX5_likeness_9 mlX5_47 ⟨by decide, by decide⟩ rfl (Nat.le_of_ble_eq_true rfl) dX5_likeness_12 (by decide) (fun c9 => ?_) (fun c9 => ?_)
    · refine ev_aload_n dX5_likeness_21 rfl ?_
      refine ev_getr 0 dX5_likeness_22 rfl rfl flX5_10 iwX5 (by decide) rfl ?_
      refine ev_geti 8 8 dX5_likeness_25 rfl rfl flX5_121 iwX2 (by decide) rfl rfl ?_
      refine ev_bipush dX5_likeness_28 (by decide) ?_
      refine ev_icmp_lt (tgt := 39) dX5_likeness_30 (by decide) (by omega) (by omega) (fun c30 => ?_) (fun c30 => ?_)
      · refine ev_aload_n dX5_likeness_39 rfl ?_
        refine ev_getr 0 dX5_likeness_40 rfl rfl flX5_10 iwX5 (by decide) rfl ?_
        refine ev_iload_n dX5_likeness_43 rfl ?_
        refine ev_iload_n dX5_likeness_44 rfl ?_
        refine ev_V1 (c_X2_addLikeness hP1 (by omega)) okX2_addLikeness dX5_likeness_45 mlX5_124 rfl rfl ⟨by decide, by decide⟩ rfl (Nat.le_of_ble_eq_true rfl) ?_
        refine ev_iret dX5_likeness_48 rfl rfl ?_
        first | (exfalso; omega) | ((repeat (first | rw [if_pos (by omega)] | rw [if_neg (by omega)])); exact ⟨rfl, sameC_rf⟩)
      · refine ev_aload_n dX5_likeness_33 rfl ?_
        refine ev_iconst dX5_likeness_34 ?_
        refine ev_V1 (c_X5_finding (by omega)) okX5_finding dX5_likeness_35 mlX5_55 rfl rfl ⟨by decide, by decide⟩ rfl (Nat.le_of_ble_eq_true rfl) ?_
        refine ev_iret dX5_likeness_38 rfl rfl ?_
        first | (exfalso; omega) | ((repeat (first | rw [if_pos (by omega)] | rw [if_neg (by omega)])); exact ⟨rfl, sameC_rf⟩)
    · refine ev_aload_n dX5_likeness_15 rfl ?_
      refine ev_iconst dX5_likeness_16 ?_
      refine ev_V1 (c_X5_finding (by omega)) okX5_finding dX5_likeness_17 mlX5_55 rfl rfl ⟨by decide, by decide⟩ rfl (Nat.le_of_ble_eq_true rfl) ?_
      refine ev_iret dX5_likeness_20 rfl rfl ?_
      first | (exfalso; omega) | ((repeat (first | rw [if_pos (by omega)] | rw [if_neg (by omega)])); exact ⟨rfl, sameC_rf⟩)
def sc_place (σ : ev_M) (l w v : Int) : Int × ev_M := if (0 ≤ l ∧ l ≤ σ 1 8 - 1) ∧ w = 0 ∧ 0 ≤ v ∧ v ≤ 47 then (σ 7 l, mup σ 7 l v) else if (0 ≤ l ∧ l ≤ σ 1 8 - 1) ∧ w = 1 ∧ 0 ≤ v ∧ v ≤ σ 1 3 - 1 then (σ 8 l, mup σ 8 l v) else if (0 ≤ l ∧ l ≤ σ 1 8 - 1) ∧ w = 2 ∧ 0 ≤ v ∧ v ≤ 9999 then (σ 9 l, mup σ 9 l v) else (-1000000001, fnd σ 0)
theorem c_X5_place {b : ev_B} {σ : ev_M} {l w v : Int} (H : okP (wn σ 1)) (h1 : (-2147483648 ≤ l ∧ l < 2147483648)) (h2 : (-2147483648 ≤ w ∧ w < 2147483648)) (h3 : (-2147483648 ≤ v ∧ v < 2147483648)) : Cl b mX5_place [vR 0, vI l, vI w, vI v] σ (fun r τ => r = some (vI (sc_place σ l w v).1) ∧ sameC (sc_place σ l w v).2 τ) := by
  refine ev_enter okX5_place.1 (Nat.le_of_ble_eq_true rfl) ?_
  unfold sc_place
  have h0 := ok0 H
  refine ev_aload_n dX5_place_0 rfl ?_
  refine ev_iload_n dX5_place_1 rfl ?_
  refine ev_Vbne (tgt := 14) (c_X5_isLikeness (by omega) (by omega)) okX5_isLikeness dX5_place_2 mlX5_128 rfl rfl ⟨by decide, by decide⟩ rfl (Nat.le_of_ble_eq_true rfl) dX5_place_5 (by decide) (fun c2 => ?_) (fun c2 => ?_)
  · refine ev_iload_n dX5_place_14 rfl ?_
    refine ev_if_ne (tgt := 38) dX5_place_15 (by decide) (by omega) (fun c15 => ?_) (fun c15 => ?_)
    · refine ev_iload_n dX5_place_38 rfl ?_
      refine ev_iconst dX5_place_39 ?_
      refine ev_icmp_ne (tgt := 64) dX5_place_40 (by decide) (by omega) (by omega) (fun c40 => ?_) (fun c40 => ?_)
      · refine ev_iload_n dX5_place_64 rfl ?_
        refine ev_iconst dX5_place_65 ?_
        refine ev_icmp_ne (tgt := 93) dX5_place_66 (by decide) (by omega) (by omega) (fun c66 => ?_) (fun c66 => ?_)
        · refine ev_aload_n dX5_place_93 rfl ?_
          refine ev_iconst dX5_place_94 ?_
          refine ev_V1 (c_X5_finding (by omega)) okX5_finding dX5_place_95 mlX5_55 rfl rfl ⟨by decide, by decide⟩ rfl (Nat.le_of_ble_eq_true rfl) ?_
          refine ev_iret dX5_place_98 rfl rfl ?_
          first | (exfalso; omega) | ((repeat (first | rw [if_pos (by omega)] | rw [if_neg (by omega)])); exact ⟨rfl, sameC_rf⟩)
        · refine ev_iload_n dX5_place_69 rfl ?_
          refine ev_iconst dX5_place_70 ?_
          refine ev_sipush dX5_place_71 (by decide) ?_
          refine ev_Sbeq (tgt := 93) (c_X5_isWithin (by omega) (by omega) (by omega)) okX5_isWithin dX5_place_74 mlX5_51 ⟨by decide, by decide⟩ rfl (Nat.le_of_ble_eq_true rfl) dX5_place_77 (by decide) (fun c74 => ?_) (fun c74 => ?_)
          · refine ev_aload_n dX5_place_93 rfl ?_
            refine ev_iconst dX5_place_94 ?_
            refine ev_V1 (c_X5_finding (by omega)) okX5_finding dX5_place_95 mlX5_55 rfl rfl ⟨by decide, by decide⟩ rfl (Nat.le_of_ble_eq_true rfl) ?_
            refine ev_iret dX5_place_98 rfl rfl ?_
            first | (exfalso; omega) | ((repeat (first | rw [if_pos (by omega)] | rw [if_neg (by omega)])); exact ⟨rfl, sameC_rf⟩)
          · refine ev_aload_n dX5_place_80 rfl ?_
            refine ev_getr 0 dX5_place_81 rfl rfl flX5_10 iwX5 (by decide) rfl ?_
            refine ev_getr 11 dX5_place_84 rfl rfl flX5_137 iwX2 (by decide) rfl ?_
            refine ev_iload_n dX5_place_87 rfl ?_
            refine ev_iload_n dX5_place_88 rfl ?_
            refine ev_S1 (c_X5_exchange (r := 9) (n := 8) rfl (by omega)) okX5_exchange dX5_place_89 mlX5_111 ⟨by decide, by decide⟩ rfl (Nat.le_of_ble_eq_true rfl) ?_
            refine ev_iret dX5_place_92 rfl rfl ?_
            first | (exfalso; omega) | ((repeat (first | rw [if_pos (by omega)] | rw [if_neg (by omega)])); exact ⟨rfl, sameC_rf⟩)
      · refine ev_aload_n dX5_place_43 rfl ?_
        refine ev_iload_n dX5_place_44 rfl ?_
        refine ev_Vbeq (tgt := 64) (c_X5_isSitter (by omega) (by omega)) okX5_isSitter dX5_place_45 mlX5_85 rfl rfl ⟨by decide, by decide⟩ rfl (Nat.le_of_ble_eq_true rfl) dX5_place_48 (by decide) (fun c45 => ?_) (fun c45 => ?_)
        · refine ev_iload_n dX5_place_64 rfl ?_
          refine ev_iconst dX5_place_65 ?_
          refine ev_icmp_ne (tgt := 93) dX5_place_66 (by decide) (by omega) (by omega) (fun c66 => ?_) (fun c66 => ?_)
          · refine ev_aload_n dX5_place_93 rfl ?_
            refine ev_iconst dX5_place_94 ?_
            refine ev_V1 (c_X5_finding (by omega)) okX5_finding dX5_place_95 mlX5_55 rfl rfl ⟨by decide, by decide⟩ rfl (Nat.le_of_ble_eq_true rfl) ?_
            refine ev_iret dX5_place_98 rfl rfl ?_
            first | (exfalso; omega) | ((repeat (first | rw [if_pos (by omega)] | rw [if_neg (by omega)])); exact ⟨rfl, sameC_rf⟩)
          · refine ev_iload_n dX5_place_69 rfl ?_
            refine ev_iconst dX5_place_70 ?_
            refine ev_sipush dX5_place_71 (by decide) ?_
            refine ev_Sbeq (tgt := 93) (c_X5_isWithin (by omega) (by omega) (by omega)) okX5_isWithin dX5_place_74 mlX5_51 ⟨by decide, by decide⟩ rfl (Nat.le_of_ble_eq_true rfl) dX5_place_77 (by decide) (fun c74 => ?_) (fun c74 => ?_)
            · refine ev_aload_n dX5_place_93 rfl ?_
              refine ev_iconst dX5_place_94 ?_
              refine ev_V1 (c_X5_finding (by omega)) okX5_finding dX5_place_95 mlX5_55 rfl rfl ⟨by decide, by decide⟩ rfl (Nat.le_of_ble_eq_true rfl) ?_
              refine ev_iret dX5_place_98 rfl rfl ?_
              first | (exfalso; omega) | ((repeat (first | rw [if_pos (by omega)] | rw [if_neg (by omega)])); exact ⟨rfl, sameC_rf⟩)
            · refine ev_aload_n dX5_place_80 rfl ?_
              refine ev_getr 0 dX5_place_81 rfl rfl flX5_10 iwX5 (by decide) rfl ?_
              refine ev_getr 11 dX5_place_84 rfl rfl flX5_137 iwX2 (by decide) rfl ?_
              refine ev_iload_n dX5_place_87 rfl ?_
              refine ev_iload_n dX5_place_88 rfl ?_
              refine ev_S1 (c_X5_exchange (r := 9) (n := 8) rfl (by omega)) okX5_exchange dX5_place_89 mlX5_111 ⟨by decide, by decide⟩ rfl (Nat.le_of_ble_eq_true rfl) ?_
              refine ev_iret dX5_place_92 rfl rfl ?_
              first | (exfalso; omega) | ((repeat (first | rw [if_pos (by omega)] | rw [if_neg (by omega)])); exact ⟨rfl, sameC_rf⟩)
        · refine ev_aload_n dX5_place_51 rfl ?_
          refine ev_getr 0 dX5_place_52 rfl rfl flX5_10 iwX5 (by decide) rfl ?_
          refine ev_getr 10 dX5_place_55 rfl rfl flX5_134 iwX2 (by decide) rfl ?_
          refine ev_iload_n dX5_place_58 rfl ?_
          refine ev_iload_n dX5_place_59 rfl ?_
          refine ev_S1 (c_X5_exchange (r := 8) (n := 8) rfl (by omega)) okX5_exchange dX5_place_60 mlX5_111 ⟨by decide, by decide⟩ rfl (Nat.le_of_ble_eq_true rfl) ?_
          refine ev_iret dX5_place_63 rfl rfl ?_
          first | (exfalso; omega) | ((repeat (first | rw [if_pos (by omega)] | rw [if_neg (by omega)])); exact ⟨rfl, sameC_rf⟩)
    · refine ev_iload_n dX5_place_18 rfl ?_
      refine ev_Sbeq (tgt := 38) (c_X5_isCell (by omega)) okX5_isCell dX5_place_19 mlX5_47 ⟨by decide, by decide⟩ rfl (Nat.le_of_ble_eq_true rfl) dX5_place_22 (by decide) (fun c19 => ?_) (fun c19 => ?_)
      · refine ev_iload_n dX5_place_38 rfl ?_
        refine ev_iconst dX5_place_39 ?_
        refine ev_icmp_ne (tgt := 64) dX5_place_40 (by decide) (by omega) (by omega) (fun c40 => ?_) (fun c40 => ?_)
        · refine ev_iload_n dX5_place_64 rfl ?_
          refine ev_iconst dX5_place_65 ?_
          refine ev_icmp_ne (tgt := 93) dX5_place_66 (by decide) (by omega) (by omega) (fun c66 => ?_) (fun c66 => ?_)
          · refine ev_aload_n dX5_place_93 rfl ?_
            refine ev_iconst dX5_place_94 ?_
            refine ev_V1 (c_X5_finding (by omega)) okX5_finding dX5_place_95 mlX5_55 rfl rfl ⟨by decide, by decide⟩ rfl (Nat.le_of_ble_eq_true rfl) ?_
            refine ev_iret dX5_place_98 rfl rfl ?_
            first | (exfalso; omega) | ((repeat (first | rw [if_pos (by omega)] | rw [if_neg (by omega)])); exact ⟨rfl, sameC_rf⟩)
          · refine ev_iload_n dX5_place_69 rfl ?_
            refine ev_iconst dX5_place_70 ?_
            refine ev_sipush dX5_place_71 (by decide) ?_
            refine ev_Sbeq (tgt := 93) (c_X5_isWithin (by omega) (by omega) (by omega)) okX5_isWithin dX5_place_74 mlX5_51 ⟨by decide, by decide⟩ rfl (Nat.le_of_ble_eq_true rfl) dX5_place_77 (by decide) (fun c74 => ?_) (fun c74 => ?_)
            · refine ev_aload_n dX5_place_93 rfl ?_
              refine ev_iconst dX5_place_94 ?_
              refine ev_V1 (c_X5_finding (by omega)) okX5_finding dX5_place_95 mlX5_55 rfl rfl ⟨by decide, by decide⟩ rfl (Nat.le_of_ble_eq_true rfl) ?_
              refine ev_iret dX5_place_98 rfl rfl ?_
              first | (exfalso; omega) | ((repeat (first | rw [if_pos (by omega)] | rw [if_neg (by omega)])); exact ⟨rfl, sameC_rf⟩)
            · refine ev_aload_n dX5_place_80 rfl ?_
              refine ev_getr 0 dX5_place_81 rfl rfl flX5_10 iwX5 (by decide) rfl ?_
              refine ev_getr 11 dX5_place_84 rfl rfl flX5_137 iwX2 (by decide) rfl ?_
              refine ev_iload_n dX5_place_87 rfl ?_
              refine ev_iload_n dX5_place_88 rfl ?_
              refine ev_S1 (c_X5_exchange (r := 9) (n := 8) rfl (by omega)) okX5_exchange dX5_place_89 mlX5_111 ⟨by decide, by decide⟩ rfl (Nat.le_of_ble_eq_true rfl) ?_
              refine ev_iret dX5_place_92 rfl rfl ?_
              first | (exfalso; omega) | ((repeat (first | rw [if_pos (by omega)] | rw [if_neg (by omega)])); exact ⟨rfl, sameC_rf⟩)
        · refine ev_aload_n dX5_place_43 rfl ?_
          refine ev_iload_n dX5_place_44 rfl ?_
          refine ev_Vbeq (tgt := 64) (c_X5_isSitter (by omega) (by omega)) okX5_isSitter dX5_place_45 mlX5_85 rfl rfl ⟨by decide, by decide⟩ rfl (Nat.le_of_ble_eq_true rfl) dX5_place_48 (by decide) (fun c45 => ?_) (fun c45 => ?_)
          · refine ev_iload_n dX5_place_64 rfl ?_
            refine ev_iconst dX5_place_65 ?_
            refine ev_icmp_ne (tgt := 93) dX5_place_66 (by decide) (by omega) (by omega) (fun c66 => ?_) (fun c66 => ?_)
            · refine ev_aload_n dX5_place_93 rfl ?_
              refine ev_iconst dX5_place_94 ?_
              refine ev_V1 (c_X5_finding (by omega)) okX5_finding dX5_place_95 mlX5_55 rfl rfl ⟨by decide, by decide⟩ rfl (Nat.le_of_ble_eq_true rfl) ?_
              refine ev_iret dX5_place_98 rfl rfl ?_
              first | (exfalso; omega) | ((repeat (first | rw [if_pos (by omega)] | rw [if_neg (by omega)])); exact ⟨rfl, sameC_rf⟩)
            · refine ev_iload_n dX5_place_69 rfl ?_
              refine ev_iconst dX5_place_70 ?_
              refine ev_sipush dX5_place_71 (by decide) ?_
              refine ev_Sbeq (tgt := 93) (c_X5_isWithin (by omega) (by omega) (by omega)) okX5_isWithin dX5_place_74 mlX5_51 ⟨by decide, by decide⟩ rfl (Nat.le_of_ble_eq_true rfl) dX5_place_77 (by decide) (fun c74 => ?_) (fun c74 => ?_)
              · refine ev_aload_n dX5_place_93 rfl ?_
                refine ev_iconst dX5_place_94 ?_
                refine ev_V1 (c_X5_finding (by omega)) okX5_finding dX5_place_95 mlX5_55 rfl rfl ⟨by decide, by decide⟩ rfl (Nat.le_of_ble_eq_true rfl) ?_
                refine ev_iret dX5_place_98 rfl rfl ?_
                first | (exfalso; omega) | ((repeat (first | rw [if_pos (by omega)] | rw [if_neg (by omega)])); exact ⟨rfl, sameC_rf⟩)
              · refine ev_aload_n dX5_place_80 rfl ?_
                refine ev_getr 0 dX5_place_81 rfl rfl flX5_10 iwX5 (by decide) rfl ?_
                refine ev_getr 11 dX5_place_84 rfl rfl flX5_137 iwX2 (by decide) rfl ?_
                refine ev_iload_n dX5_place_87 rfl ?_
                refine ev_iload_n dX5_place_88 rfl ?_
                refine ev_S1 (c_X5_exchange (r := 9) (n := 8) rfl (by omega)) okX5_exchange dX5_place_89 mlX5_111 ⟨by decide, by decide⟩ rfl (Nat.le_of_ble_eq_true rfl) ?_
                refine ev_iret dX5_place_92 rfl rfl ?_
                first | (exfalso; omega) | ((repeat (first | rw [if_pos (by omega)] | rw [if_neg (by omega)])); exact ⟨rfl, sameC_rf⟩)
          · refine ev_aload_n dX5_place_51 rfl ?_
            refine ev_getr 0 dX5_place_52 rfl rfl flX5_10 iwX5 (by decide) rfl ?_
            refine ev_getr 10 dX5_place_55 rfl rfl flX5_134 iwX2 (by decide) rfl ?_
            refine ev_iload_n dX5_place_58 rfl ?_
            refine ev_iload_n dX5_place_59 rfl ?_
            refine ev_S1 (c_X5_exchange (r := 8) (n := 8) rfl (by omega)) okX5_exchange dX5_place_60 mlX5_111 ⟨by decide, by decide⟩ rfl (Nat.le_of_ble_eq_true rfl) ?_
            refine ev_iret dX5_place_63 rfl rfl ?_
            first | (exfalso; omega) | ((repeat (first | rw [if_pos (by omega)] | rw [if_neg (by omega)])); exact ⟨rfl, sameC_rf⟩)
      · refine ev_aload_n dX5_place_25 rfl ?_
        refine ev_getr 0 dX5_place_26 rfl rfl flX5_10 iwX5 (by decide) rfl ?_
        refine ev_getr 9 dX5_place_29 rfl rfl flX5_131 iwX2 (by decide) rfl ?_
        refine ev_iload_n dX5_place_32 rfl ?_
        refine ev_iload_n dX5_place_33 rfl ?_
        refine ev_S1 (c_X5_exchange (r := 7) (n := 8) rfl (by omega)) okX5_exchange dX5_place_34 mlX5_111 ⟨by decide, by decide⟩ rfl (Nat.le_of_ble_eq_true rfl) ?_
        refine ev_iret dX5_place_37 rfl rfl ?_
        first | (exfalso; omega) | ((repeat (first | rw [if_pos (by omega)] | rw [if_neg (by omega)])); exact ⟨rfl, sameC_rf⟩)
  · refine ev_aload_n dX5_place_8 rfl ?_
    refine ev_iconst dX5_place_9 ?_
    refine ev_V1 (c_X5_finding (by omega)) okX5_finding dX5_place_10 mlX5_55 rfl rfl ⟨by decide, by decide⟩ rfl (Nat.le_of_ble_eq_true rfl) ?_
    refine ev_iret dX5_place_13 rfl rfl ?_
    first | (exfalso; omega) | ((repeat (first | rw [if_pos (by omega)] | rw [if_neg (by omega)])); exact ⟨rfl, sameC_rf⟩)
def sc_scares (σ : ev_M) (l d : Int) : Int × ev_M := if (0 ≤ l ∧ l ≤ σ 1 8 - 1) ∧ 0 ≤ d ∧ d ≤ 12 then (1000 + scr (wn σ 1) l d, σ) else (-1000000001, fnd σ 0)
theorem c_X5_scares {b : ev_B} {σ : ev_M} {l d : Int} (H : okP (wn σ 1)) (h1 : (-2147483648 ≤ l ∧ l < 2147483648)) (h2 : (-2147483648 ≤ d ∧ d < 2147483648)) : Cl b mX5_scares [vR 0, vI l, vI d] σ (fun r τ => r = some (vI (sc_scares σ l d).1) ∧ sameC (sc_scares σ l d).2 τ) := by
  refine ev_enter okX5_scares.1 (Nat.le_of_ble_eq_true rfl) ?_
  unfold sc_scares
  have h0 := ok0 H
  refine ev_aload_n dX5_scares_0 rfl ?_
  refine ev_iload_n dX5_scares_1 rfl ?_
  refine ev_Vbeq (tgt := 18) (c_X5_isLikeness (by omega) (by omega)) okX5_isLikeness dX5_scares_2 mlX5_128 rfl rfl ⟨by decide, by decide⟩ rfl (Nat.le_of_ble_eq_true rfl) dX5_scares_5 (by decide) (fun c2 => ?_) (fun c2 => ?_)
  · refine ev_aload_n dX5_scares_18 rfl ?_
    refine ev_iconst dX5_scares_19 ?_
    refine ev_V1 (c_X5_finding (by omega)) okX5_finding dX5_scares_20 mlX5_55 rfl rfl ⟨by decide, by decide⟩ rfl (Nat.le_of_ble_eq_true rfl) ?_
    refine ev_iret dX5_scares_23 rfl rfl ?_
    first | (exfalso; omega) | ((repeat (first | rw [if_pos (by omega)] | rw [if_neg (by omega)])); exact ⟨rfl, sameC_rf⟩)
  · refine ev_iload_n dX5_scares_8 rfl ?_
    refine ev_iconst dX5_scares_9 ?_
    refine ev_bipush dX5_scares_10 (by decide) ?_
    refine ev_Sbne (tgt := 24) (c_X5_isWithin (by omega) (by omega) (by omega)) okX5_isWithin dX5_scares_12 mlX5_51 ⟨by decide, by decide⟩ rfl (Nat.le_of_ble_eq_true rfl) dX5_scares_15 (by decide) (fun c12 => ?_) (fun c12 => ?_)
    · refine ev_sipush dX5_scares_24 (by decide) ?_
      refine ev_aload_n dX5_scares_27 rfl ?_
      refine ev_getr 0 dX5_scares_28 rfl rfl flX5_10 iwX5 (by decide) rfl ?_
      refine ev_iload_n dX5_scares_31 rfl ?_
      refine ev_iload_n dX5_scares_32 rfl ?_
      refine ev_V1 (c_X2_scareOf hP1 H (by omega) (by omega)) okX2_scareOf dX5_scares_33 mlX5_143 rfl rfl ⟨by decide, by decide⟩ rfl (Nat.le_of_ble_eq_true rfl) ?_
      refine ev_iadd dX5_scares_36 ?_
      refine ev_iret dX5_scares_37 rfl rfl ?_
      first | (exfalso; omega) | ((repeat (first | rw [if_pos (by omega)] | rw [if_neg (by omega)])); exact ⟨rfl, sameC_rf⟩)
    · refine ev_aload_n dX5_scares_18 rfl ?_
      refine ev_iconst dX5_scares_19 ?_
      refine ev_V1 (c_X5_finding (by omega)) okX5_finding dX5_scares_20 mlX5_55 rfl rfl ⟨by decide, by decide⟩ rfl (Nat.le_of_ble_eq_true rfl) ?_
      refine ev_iret dX5_scares_23 rfl rfl ?_
      first | (exfalso; omega) | ((repeat (first | rw [if_pos (by omega)] | rw [if_neg (by omega)])); exact ⟨rfl, sameC_rf⟩)
def sc_told (σ : ev_M) (l w : Int) : Int × ev_M := if (0 ≤ l ∧ l ≤ σ 1 8 - 1) ∧ 0 ≤ w ∧ w ≤ 4 then (if w = 0 then σ 7 l else if w = 1 then σ 8 l else if w = 2 then σ 9 l else if w = 3 then 1000 + cnt (wn σ 1) l else 1000 + scr (wn σ 1) l 0, σ) else (-1000000001, fnd σ 0)
theorem c_X5_told {b : ev_B} {σ : ev_M} {l w : Int} (H : okP (wn σ 1)) (h1 : (-2147483648 ≤ l ∧ l < 2147483648)) (h2 : (-2147483648 ≤ w ∧ w < 2147483648)) : Cl b mX5_told [vR 0, vI l, vI w] σ (fun r τ => r = some (vI (sc_told σ l w).1) ∧ sameC (sc_told σ l w).2 τ) := by
  refine ev_enter okX5_told.1 (Nat.le_of_ble_eq_true rfl) ?_
  unfold sc_told
  have h0 := ok0 H
  refine ev_aload_n dX5_told_0 rfl ?_
  refine ev_iload_n dX5_told_1 rfl ?_
  refine ev_Vbne (tgt := 14) (c_X5_isLikeness (by omega) (by omega)) okX5_isLikeness dX5_told_2 mlX5_128 rfl rfl ⟨by decide, by decide⟩ rfl (Nat.le_of_ble_eq_true rfl) dX5_told_5 (by decide) (fun c2 => ?_) (fun c2 => ?_)
  · by_cases hw : 0 ≤ w ∧ w ≤ 4
    · rw [if_pos (by omega)]
      refine ev_iload_n dX5_told_14 rfl ?_
      -- switch 15
      rcases (show w = 0 ∨ w = 1 ∨ w = 2 ∨ w = 3 ∨ w = 4 by omega) with rfl | rfl | rfl | rfl | rfl
      · refine ev_tableIn (off := 33) (tgt := 48) dX5_told_15 (by omega) (by omega) (by omega) (by decide) (by decide) ?_
        refine ev_aload_n dX5_told_48 rfl ?_
        refine ev_getr 0 dX5_told_49 rfl rfl flX5_10 iwX5 (by decide) rfl ?_
        refine ev_getr 9 dX5_told_52 rfl rfl flX5_131 iwX2 (by decide) rfl ?_
        refine ev_iload_n dX5_told_55 rfl ?_
        refine ev_iald dX5_told_56 rfl (by omega) ?_
        refine ev_iret dX5_told_57 rfl rfl ?_
        exact ⟨rfl, sameC_rf⟩
      · refine ev_tableIn (off := 43) (tgt := 58) dX5_told_15 (by omega) (by omega) (by omega) (by decide) (by decide) ?_
        refine ev_aload_n dX5_told_58 rfl ?_
        refine ev_getr 0 dX5_told_59 rfl rfl flX5_10 iwX5 (by decide) rfl ?_
        refine ev_getr 10 dX5_told_62 rfl rfl flX5_134 iwX2 (by decide) rfl ?_
        refine ev_iload_n dX5_told_65 rfl ?_
        refine ev_iald dX5_told_66 rfl (by omega) ?_
        refine ev_iret dX5_told_67 rfl rfl ?_
        exact ⟨rfl, sameC_rf⟩
      · refine ev_tableIn (off := 53) (tgt := 68) dX5_told_15 (by omega) (by omega) (by omega) (by decide) (by decide) ?_
        refine ev_aload_n dX5_told_68 rfl ?_
        refine ev_getr 0 dX5_told_69 rfl rfl flX5_10 iwX5 (by decide) rfl ?_
        refine ev_getr 11 dX5_told_72 rfl rfl flX5_137 iwX2 (by decide) rfl ?_
        refine ev_iload_n dX5_told_75 rfl ?_
        refine ev_iald dX5_told_76 rfl (by omega) ?_
        refine ev_iret dX5_told_77 rfl rfl ?_
        exact ⟨rfl, sameC_rf⟩
      · refine ev_tableIn (off := 63) (tgt := 78) dX5_told_15 (by omega) (by omega) (by omega) (by decide) (by decide) ?_
        refine ev_sipush dX5_told_78 (by decide) ?_
        refine ev_aload_n dX5_told_81 rfl ?_
        refine ev_getr 0 dX5_told_82 rfl rfl flX5_10 iwX5 (by decide) rfl ?_
        refine ev_iload_n dX5_told_85 rfl ?_
        refine ev_V1 (c_X2_countsFor hP1 H (by omega)) okX2_countsFor dX5_told_86 mlX5_140 rfl rfl ⟨by decide, by decide⟩ rfl (Nat.le_of_ble_eq_true rfl) ?_
        refine ev_iadd dX5_told_89 ?_
        refine ev_iret dX5_told_90 rfl rfl ?_
        exact ⟨rfl, sameC_rf⟩
      · refine ev_tableIn (off := 76) (tgt := 91) dX5_told_15 (by omega) (by omega) (by omega) (by decide) (by decide) ?_
        refine ev_sipush dX5_told_91 (by decide) ?_
        refine ev_aload_n dX5_told_94 rfl ?_
        refine ev_getr 0 dX5_told_95 rfl rfl flX5_10 iwX5 (by decide) rfl ?_
        refine ev_iload_n dX5_told_98 rfl ?_
        refine ev_iconst dX5_told_99 ?_
        refine ev_V1 (c_X2_scareOf hP1 H (by omega) (by omega)) okX2_scareOf dX5_told_100 mlX5_143 rfl rfl ⟨by decide, by decide⟩ rfl (Nat.le_of_ble_eq_true rfl) ?_
        refine ev_iadd dX5_told_103 ?_
        refine ev_iret dX5_told_104 rfl rfl ?_
        exact ⟨rfl, sameC_rf⟩
    · rw [if_neg (by omega)]
      refine ev_iload_n dX5_told_14 rfl ?_
      -- switch 15
      refine ev_tableOut (tgt := 105) dX5_told_15 (by omega) (by omega) (by decide) ?_
      refine ev_aload_n dX5_told_105 rfl ?_
      refine ev_iconst dX5_told_106 ?_
      refine ev_V1 (c_X5_finding (by omega)) okX5_finding dX5_told_107 mlX5_55 rfl rfl ⟨by decide, by decide⟩ rfl (Nat.le_of_ble_eq_true rfl) ?_
      refine ev_iret dX5_told_110 rfl rfl ?_
      exact ⟨rfl, sameC_rf⟩
  · rw [if_neg (by omega)]
    refine ev_aload_n dX5_told_8 rfl ?_
    refine ev_iconst dX5_told_9 ?_
    refine ev_V1 (c_X5_finding (by omega)) okX5_finding dX5_told_10 mlX5_55 rfl rfl ⟨by decide, by decide⟩ rfl (Nat.le_of_ble_eq_true rfl) ?_
    refine ev_iret dX5_told_13 rfl rfl ?_
    exact ⟨rfl, sameC_rf⟩
