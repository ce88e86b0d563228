/-! the number of ones -/
def pcnt (s : Int) : Int := sm (fun i => s / pw i % 2) 8
theorem c_J6_bitCount_0f7a4 {b : ev_B} {σ : ev_M} {s : Int} (hs : 0 ≤ s ∧ s < 256) : CF b mJ6_bitCount_0f7a4 [vI s] σ (some (vI (pcnt s))) σ := by
  refine ev_enter okJ6_bitCount_0f7a4.1 (Nat.le_of_ble_eq_true rfl) ?_
  obtain ⟨n, hn, -⟩ := nn_ex hs.1
  have hn2 : n < 256 := by omega
  subst hn
  refine ev_iload_n dJ6_bitCount_0f7a4_0 rfl ?_
  refine ev_iload_n dJ6_bitCount_0f7a4_1 rfl ?_
  refine ev_iconst dJ6_bitCount_0f7a4_2 ?_
  refine ev_iushr dJ6_bitCount_0f7a4_3 (Int32.ofInt_toInt _).symm ?_
  refine ev_ldcw (z := 1431655765) dJ6_bitCount_0f7a4_4 kcJ6_265 (by decide) ?_
  refine ev_iand dJ6_bitCount_0f7a4_7 (Int32.ofInt_toInt _).symm ?_
  refine ev_isub dJ6_bitCount_0f7a4_8 ?_
  refine ev_istore_n dJ6_bitCount_0f7a4_9 (by decide) rfl ?_
  refine ev_iload_n dJ6_bitCount_0f7a4_10 rfl ?_
  refine ev_ldcw (z := 858993459) dJ6_bitCount_0f7a4_11 kcJ6_266 (by decide) ?_
  refine ev_iand dJ6_bitCount_0f7a4_14 (Int32.ofInt_toInt _).symm ?_
  refine ev_iload_n dJ6_bitCount_0f7a4_15 rfl ?_
  refine ev_iconst dJ6_bitCount_0f7a4_16 ?_
  refine ev_iushr dJ6_bitCount_0f7a4_17 (Int32.ofInt_toInt _).symm ?_
  refine ev_ldcw (z := 858993459) dJ6_bitCount_0f7a4_18 kcJ6_266 (by decide) ?_
  refine ev_iand dJ6_bitCount_0f7a4_21 (Int32.ofInt_toInt _).symm ?_
  refine ev_iadd dJ6_bitCount_0f7a4_22 ?_
  refine ev_istore_n dJ6_bitCount_0f7a4_23 (by decide) rfl ?_
  refine ev_iload_n dJ6_bitCount_0f7a4_24 rfl ?_
  refine ev_iload_n dJ6_bitCount_0f7a4_25 rfl ?_
  refine ev_iconst dJ6_bitCount_0f7a4_26 ?_
  refine ev_iushr dJ6_bitCount_0f7a4_27 (Int32.ofInt_toInt _).symm ?_
  refine ev_iadd dJ6_bitCount_0f7a4_28 ?_
  refine ev_ldcw (z := 252645135) dJ6_bitCount_0f7a4_29 kcJ6_267 (by decide) ?_
  refine ev_iand dJ6_bitCount_0f7a4_32 (Int32.ofInt_toInt _).symm ?_
  refine ev_istore_n dJ6_bitCount_0f7a4_33 (by decide) rfl ?_
  refine ev_iload_n dJ6_bitCount_0f7a4_34 rfl ?_
  refine ev_iload_n dJ6_bitCount_0f7a4_35 rfl ?_
  refine ev_bipush dJ6_bitCount_0f7a4_36 (by decide) ?_
  refine ev_iushr dJ6_bitCount_0f7a4_38 (Int32.ofInt_toInt _).symm ?_
  refine ev_iadd dJ6_bitCount_0f7a4_39 ?_
  refine ev_istore_n dJ6_bitCount_0f7a4_40 (by decide) rfl ?_
  refine ev_iload_n dJ6_bitCount_0f7a4_41 rfl ?_
  refine ev_iload_n dJ6_bitCount_0f7a4_42 rfl ?_
  refine ev_bipush dJ6_bitCount_0f7a4_43 (by decide) ?_
  refine ev_iushr dJ6_bitCount_0f7a4_45 (Int32.ofInt_toInt _).symm ?_
  refine ev_iadd dJ6_bitCount_0f7a4_46 ?_
  refine ev_istore_n dJ6_bitCount_0f7a4_47 (by decide) rfl ?_
  refine ev_iload_n dJ6_bitCount_0f7a4_48 rfl ?_
  refine ev_bipush dJ6_bitCount_0f7a4_49 (by decide) ?_
  refine ev_iand dJ6_bitCount_0f7a4_51 (Int32.ofInt_toInt _).symm ?_
  refine ev_iret dJ6_bitCount_0f7a4_52 rfl rfl ?_
  refine ⟨congrArg (fun z => some (vI z)) ?_, rfl⟩
  clear hs
  revert n
  decide +kernel
/-- the ones of a set are as many as it has members -/
theorem pw_s (n : Nat) : pw ((n + 1 : Nat) : Int) = 2 * pw n := by rw [pw_nat, pw_nat, Int.pow_succ]; omega
theorem pw_pos (n : Nat) : 0 < pw n := by
  rw [pw_nat]
  exact Int.pow_pos (by omega)
theorem pw_cut (i : Nat) : ∀ (k : Nat) (a x : Int), (a + x * pw ((i + 1 + k : Nat) : Int)) / pw i % 2 = a / pw i % 2
  | k, a, x => by
    have e : pw ((i + 1 + k : Nat) : Int) = pw i * (2 * 2 ^ k) := by
      rw [pw_nat, pw_nat, Int.pow_add, Int.pow_add, Int.pow_succ, Int.pow_zero, Int.one_mul, Int.mul_assoc]
    rw [e, show x * (pw i * (2 * 2 ^ k)) = (x * 2 ^ k * 2) * pw i by rw [Int.mul_comm (pw i), ← Int.mul_assoc]; congr 1; rw [Int.mul_comm 2, ← Int.mul_assoc], Int.add_mul_ediv_right _ _ (by have := pw_pos i; omega), Int.add_mul_emod_self_right]
theorem stf_s (f : Int → Bool) (n : Nat) : stf f (n + 1) = stf f n + (if f n = true then 1 else 0) * pw n := by
  show sm _ n + _ = sm _ n + _
  congr 1
  by_cases h : f n = true
  · simp [h]
  · simp [h]
theorem stf_bit (f : Int → Bool) {i : Nat} : ∀ {n : Nat}, i < n → stf f n / pw i % 2 = if f i = true then 1 else 0
  | 0, h => absurd h (Nat.not_lt_zero _)
  | n + 1, h => by
    rw [stf_s]
    rcases Nat.lt_or_ge i n with q | q
    · obtain ⟨k, rfl⟩ : ∃ k, n = i + 1 + k := ⟨n - i - 1, by omega⟩
      rw [pw_cut, stf_bit f q]
    · have e : i = n := by omega
      subst e
      have hb := stf_bd f i
      rw [Int.add_mul_ediv_right _ _ (by have := pw_pos i; omega), Int.ediv_eq_zero_of_lt hb.1 hb.2, Int.zero_add]
      split <;> rfl
theorem pw_mono {n : Nat} : ∀ {i : Nat}, n ≤ i → pw n ≤ pw i
  | 0, h => by rw [show n = 0 by omega]; exact Int.le_refl _
  | i + 1, h => by
    rcases Nat.lt_or_ge i n with q | q
    · rw [show n = i + 1 by omega]; exact Int.le_refl _
    · have h1 := pw_mono q
      have h2 := pw_pos i
      rw [pw_s]
      omega
theorem stf_bit0 (f : Int → Bool) {n i : Nat} (h : n ≤ i) : stf f n / pw i % 2 = 0 := by
  have hb := stf_bd f n
  have hm : pw n ≤ pw i := pw_mono h
  rw [Int.ediv_eq_zero_of_lt hb.1 (by omega)]
  rfl
theorem sm_split (f : Int → Int) (a : Nat) : ∀ k : Nat, sm f (a + k) = sm f a + sm (fun i => f (a + i)) k
  | 0 => by simp [sm]
  | k + 1 => by
    rw [← Nat.add_assoc, sm, sm_split f a k, sm]
    have e : ((a + k : Nat) : Int) = (a : Int) + k := by omega
    rw [e]
    omega
theorem pcnt_stf (f : Int → Bool) {n : Nat} (hn : n ≤ 8) : pcnt (stf f n) = sm (fun l => if f l = true then 1 else 0) n := by
  unfold pcnt
  have hs := sm_split (fun i => stf f n / pw i % 2) n (8 - n)
  rw [show n + (8 - n) = 8 by omega] at hs
  rw [hs]
  have e0 : sm (fun i => stf f n / pw ((n : Int) + i) % 2) (8 - n) = 0 := by
    refine sm_zero (fun l _ => ?_)
    have := stf_bit0 f (n := n) (i := n + l) (by omega)
    rw [show (n : Int) + (l : Int) = ((n + l : Nat) : Int) by omega]
    exact this
  rw [e0, Int.add_zero]
  exact sm_congr (fun i hi => stf_bit f hi)

def sc_of (σ : ev_M) (s w : Int) : Int × ev_M := if (0 ≤ s ∧ s ≤ σ 1 3 - 1) ∧ 0 ≤ w ∧ w ≤ 5 then (if w = 0 then σ 3 s else if w = 1 then σ 4 s else if w = 2 then σ 5 s else if w = 3 then σ 6 s else if w = 4 then sm (fun l => if σ 8 l = s then 1 else 0) (σ 1 8).toNat else mts (wn σ 1) allp s (σ 1 8).toNat, σ) else (-1000000001, fnd σ 0)
theorem c_X5_of {b : ev_B} {σ : ev_M} {s w : Int} (H : okP (wn σ 1)) (h1 : (-2147483648 ≤ s ∧ s < 2147483648)) (h2 : (-2147483648 ≤ w ∧ w < 2147483648)) : Cl b mX5_of [vR 0, vI s, vI w] σ (fun r τ => r = some (vI (sc_of σ s w).1) ∧ sameC (sc_of σ s w).2 τ) := by
  refine ev_enter okX5_of.1 (Nat.le_of_ble_eq_true rfl) ?_
  unfold sc_of
  have h0 := ok0 H
  have hb := stf_bd (fun l => decide (σ (1 + 7) l = s)) (σ 1 8).toNat
  have hb2 := pw_bd (σ 1 8).toNat (by omega)
  have hb3 : pw ((σ 1 8).toNat : Nat) ≤ 256 := hb2.2
  refine ev_aload_n dX5_of_0 rfl ?_
  refine ev_iload_n dX5_of_1 rfl ?_
  refine ev_Vbne (tgt := 14) (c_X5_isSitter (by omega) (by omega)) okX5_isSitter dX5_of_2 mlX5_85 rfl rfl ⟨by decide, by decide⟩ rfl (Nat.le_of_ble_eq_true rfl) dX5_of_5 (by decide) (fun c2 => ?_) (fun c2 => ?_)
  · by_cases hw : 0 ≤ w ∧ w ≤ 5
    · rw [if_pos (by omega)]
      refine ev_iload_n dX5_of_14 rfl ?_
      -- switch 15
      rcases (show w = 0 ∨ w = 1 ∨ w = 2 ∨ w = 3 ∨ w = 4 ∨ w = 5 by omega) with rfl | rfl | rfl | rfl | rfl | rfl
      · refine ev_tableIn (off := 37) (tgt := 52) dX5_of_15 (by omega) (by omega) (by omega) (by decide) (by decide) ?_
        refine ev_aload_n dX5_of_52 rfl ?_
        refine ev_getr 0 dX5_of_53 rfl rfl flX5_10 iwX5 (by decide) rfl ?_
        refine ev_getr 4 dX5_of_56 rfl rfl flX5_88 iwX2 (by decide) rfl ?_
        refine ev_iload_n dX5_of_59 rfl ?_
        refine ev_iald dX5_of_60 rfl (by omega) ?_
        refine ev_iret dX5_of_61 rfl rfl ?_
        exact ⟨rfl, sameC_rf⟩
      · refine ev_tableIn (off := 47) (tgt := 62) dX5_of_15 (by omega) (by omega) (by omega) (by decide) (by decide) ?_
        refine ev_aload_n dX5_of_62 rfl ?_
        refine ev_getr 0 dX5_of_63 rfl rfl flX5_10 iwX5 (by decide) rfl ?_
        refine ev_getr 5 dX5_of_66 rfl rfl flX5_91 iwX2 (by decide) rfl ?_
        refine ev_iload_n dX5_of_69 rfl ?_
        refine ev_iald dX5_of_70 rfl (by omega) ?_
        refine ev_iret dX5_of_71 rfl rfl ?_
        exact ⟨rfl, sameC_rf⟩
      · refine ev_tableIn (off := 57) (tgt := 72) dX5_of_15 (by omega) (by omega) (by omega) (by decide) (by decide) ?_
        refine ev_aload_n dX5_of_72 rfl ?_
        refine ev_getr 0 dX5_of_73 rfl rfl flX5_10 iwX5 (by decide) rfl ?_
        refine ev_getr 6 dX5_of_76 rfl rfl flX5_94 iwX2 (by decide) rfl ?_
        refine ev_iload_n dX5_of_79 rfl ?_
        refine ev_iald dX5_of_80 rfl (by omega) ?_
        refine ev_iret dX5_of_81 rfl rfl ?_
        exact ⟨rfl, sameC_rf⟩
      · refine ev_tableIn (off := 67) (tgt := 82) dX5_of_15 (by omega) (by omega) (by omega) (by decide) (by decide) ?_
        refine ev_aload_n dX5_of_82 rfl ?_
        refine ev_getr 0 dX5_of_83 rfl rfl flX5_10 iwX5 (by decide) rfl ?_
        refine ev_getr 7 dX5_of_86 rfl rfl flX5_97 iwX2 (by decide) rfl ?_
        refine ev_iload_n dX5_of_89 rfl ?_
        refine ev_iald dX5_of_90 rfl (by omega) ?_
        refine ev_iret dX5_of_91 rfl rfl ?_
        exact ⟨rfl, sameC_rf⟩
      · refine ev_tableIn (off := 77) (tgt := 92) dX5_of_15 (by omega) (by omega) (by omega) (by decide) (by decide) ?_
        refine ev_aload_n dX5_of_92 rfl ?_
        refine ev_getr 0 dX5_of_93 rfl rfl flX5_10 iwX5 (by decide) rfl ?_
        refine ev_iload_n dX5_of_96 rfl ?_
        refine ev_V1 (c_X2_likenessesOf hP1 H (by omega)) okX2_likenessesOf dX5_of_97 mlX5_100 rfl rfl ⟨by decide, by decide⟩ rfl (Nat.le_of_ble_eq_true rfl) ?_
        refine ev_S1 (c_J6_bitCount_0f7a4 (by omega)) okJ6_bitCount_0f7a4 dX5_of_100 mlX5_103 ⟨by decide, by decide⟩ rfl (Nat.le_of_ble_eq_true rfl) ?_
        refine ev_iret dX5_of_103 rfl rfl ?_
        refine ⟨?_, sameC_rf⟩
        rw [pcnt_stf _ (by omega)]
        simp only [decide_eq_true_eq]
        rfl
      · refine ev_tableIn (off := 89) (tgt := 104) dX5_of_15 (by omega) (by omega) (by omega) (by decide) (by decide) ?_
        refine ev_aload_n dX5_of_104 rfl ?_
        refine ev_getr 0 dX5_of_105 rfl rfl flX5_10 iwX5 (by decide) rfl ?_
        refine ev_iload_n dX5_of_108 rfl ?_
        refine ev_V1 (c_X2_meetings hP1 H (by omega)) okX2_meetings dX5_of_109 mlX5_108 rfl rfl ⟨by decide, by decide⟩ rfl (Nat.le_of_ble_eq_true rfl) ?_
        refine ev_iret dX5_of_112 rfl rfl ?_
        exact ⟨rfl, sameC_rf⟩
    · rw [if_neg (by omega)]
      refine ev_iload_n dX5_of_14 rfl ?_
      -- switch 15
      refine ev_tableOut (tgt := 113) dX5_of_15 (by omega) (by omega) (by decide) ?_
      refine ev_aload_n dX5_of_113 rfl ?_
      refine ev_iconst dX5_of_114 ?_
      refine ev_V1 (c_X5_finding (by omega)) okX5_finding dX5_of_115 mlX5_55 rfl rfl ⟨by decide, by decide⟩ rfl (Nat.le_of_ble_eq_true rfl) ?_
      refine ev_iret dX5_of_118 rfl rfl ?_
      exact ⟨rfl, sameC_rf⟩
  · rw [if_neg (by omega)]
    refine ev_aload_n dX5_of_8 rfl ?_
    refine ev_iconst dX5_of_9 ?_
    refine ev_V1 (c_X5_finding (by omega)) okX5_finding dX5_of_10 mlX5_55 rfl rfl ⟨by decide, by decide⟩ rfl (Nat.le_of_ble_eq_true rfl) ?_
    refine ev_iret dX5_of_13 rfl rfl ?_
    exact ⟨rfl, sameC_rf⟩
def sc_lands (σ : ev_M) : Int × ev_M := if lnd (σ 2) (fear (wn σ 1) allp) 48 < 0 then (-1000000004, fnd σ 3) else (lnd (σ 2) (fear (wn σ 1) allp) 48, σ)
theorem c_X5_lands {b : ev_B} {σ : ev_M} (H : okP (wn σ 1)) : Cl b mX5_lands [vR 0] σ (fun r τ => r = some (vI (sc_lands σ).1) ∧ sameC (sc_lands σ).2 τ) := by
  refine ev_enter okX5_lands.1 (Nat.le_of_ble_eq_true rfl) ?_
  unfold sc_lands
  refine ev_aload_n dX5_lands_0 rfl ?_
  refine ev_getr 3 dX5_lands_1 rfl rfl flX5_25 iwX5 (by decide) rfl ?_
  refine ev_aload_n dX5_lands_4 rfl ?_
  refine ev_getr 0 dX5_lands_5 rfl rfl flX5_10 iwX5 (by decide) rfl ?_
  refine ev_callV (c_X0_look hP1 H) okX0_look dX5_lands_8 mlX5_62 rfl rfl ⟨by decide, by decide⟩ rfl (Nat.le_of_ble_eq_true rfl) (fun r8 τ8 h8 => ?_)
  obtain ⟨rfl, g1, g2, g3⟩ := h8
  have ew : wn τ8 1 = wn σ 1 := wn_congr (fun j hj => g3 (1 + j) (by omega))
  have H2 : okP (wn τ8 1) := by rw [ew]; exact H
  have el : lnd (τ8 (1 + 1)) (τ8 29) 48 = lnd (σ 2) (fear (wn σ 1) allp) 48 := by
    refine lnd_congr (fun c hc => ⟨by rw [g3 (1 + 1) (by omega)], ?_⟩)
    rw [FO_fear H2 g1 g2 hc, ew]
  have lb := lnd_bd (σ 2) (fear (wn σ 1) allp) 48
  refine ev_aload_n dX5_lands_11 rfl ?_
  refine ev_getr 3 dX5_lands_12 rfl rfl flX5_25 iwX5 (by decide) rfl ?_
  refine ev_aload_n dX5_lands_15 rfl ?_
  refine ev_getr 0 dX5_lands_16 rfl rfl flX5_10 iwX5 (by decide) rfl ?_
  refine ev_V1 (c_X0_landing hP1 (fun c hc => okw H2 hc) (fun c hc => FO_bd H2 g1 hc)) okX0_landing dX5_lands_19 mlX5_146 rfl rfl ⟨by decide, by decide⟩ rfl (Nat.le_of_ble_eq_true rfl) ?_
  rw [el]
  refine ev_istore_n dX5_lands_22 (by decide) rfl ?_
  refine ev_iload_n dX5_lands_23 rfl ?_
  refine ev_if_ge (tgt := 35) dX5_lands_24 (by decide) (by omega) (fun c24 => ?_) (fun c24 => ?_)
  · rw [if_neg (by omega)]
    refine ev_iload_n dX5_lands_35 rfl ?_
    refine ev_iret dX5_lands_36 rfl rfl ?_
    exact ⟨rfl, fun a ha => g3 a (by omega)⟩
  · rw [if_pos (by omega)]
    refine ev_aload_n dX5_lands_27 rfl ?_
    refine ev_iconst dX5_lands_28 ?_
    refine ev_V1 (c_X5_finding (by omega)) okX5_finding dX5_lands_29 mlX5_55 rfl rfl ⟨by decide, by decide⟩ rfl (Nat.le_of_ble_eq_true rfl) ?_
    refine ev_goto (tgt := 36) dX5_lands_32 (by decide) ?_
    refine ev_iret dX5_lands_36 rfl rfl ?_
    refine ⟨rfl, sameC_fnd (fun a ha => g3 a (by omega))⟩
def sc_days (σ : ev_M) (n : Int) : Int × ev_M := if 1 ≤ n ∧ n ≤ 60 then (if σ 1 2 + n ≤ 9999 then (eatN (wn σ 1) allp n.toNat, setP σ 1 (dayN (wn σ 1) allp n.toNat)) else (-1000000005, fnd σ 4)) else (-1000000001, fnd σ 0)
theorem c_X5_days {b : ev_B} {σ : ev_M} {n : Int} (H : okP (wn σ 1)) (hd : σ 1 2 ≤ 9999) (h1 : (-2147483648 ≤ n ∧ n < 2147483648)) : Cl b mX5_days [vR 0, vI n] σ (fun r τ => r = some (vI (sc_days σ n).1) ∧ sameC (sc_days σ n).2 τ) := by
  refine ev_enter okX5_days.1 (Nat.le_of_ble_eq_true rfl) ?_
  unfold sc_days
  have h0 := ok0 H
  refine ev_iload_n dX5_days_0 rfl ?_
  refine ev_iconst dX5_days_1 ?_
  refine ev_bipush dX5_days_2 (by decide) ?_
  refine ev_Sbne (tgt := 16) (c_X5_isWithin (by omega) (by omega) (by omega)) okX5_isWithin dX5_days_4 mlX5_51 ⟨by decide, by decide⟩ rfl (Nat.le_of_ble_eq_true rfl) dX5_days_7 (by decide) (fun c4 => ?_) (fun c4 => ?_)
  · rw [if_pos (by omega)]
    refine ev_aload_n dX5_days_16 rfl ?_
    refine ev_getr 0 dX5_days_17 rfl rfl flX5_10 iwX5 (by decide) rfl ?_
    refine ev_geti 2 2 dX5_days_20 rfl rfl flX5_150 iwX2 (by decide) rfl rfl ?_
    refine ev_iload_n dX5_days_23 rfl ?_
    refine ev_iadd dX5_days_24 ?_
    refine ev_sipush dX5_days_25 (by decide) ?_
    refine ev_icmp_le (tgt := 37) dX5_days_28 (by decide) (by omega) (by omega) (fun c28 => ?_) (fun c28 => ?_)
    · rw [if_pos (by omega)]
      obtain ⟨m, hm, hm2⟩ := nn_ex (x := n) (by omega)
      subst hm
      refine ev_aload_n dX5_days_37 rfl ?_
      refine ev_getr 3 dX5_days_38 rfl rfl flX5_25 iwX5 (by decide) rfl ?_
      refine ev_aload_n dX5_days_41 rfl ?_
      refine ev_getr 0 dX5_days_42 rfl rfl flX5_10 iwX5 (by decide) rfl ?_
      refine ev_iload_n dX5_days_45 rfl ?_
      refine ev_ldc (z := 1000000) dX5_days_46 kcX5_153 (by decide) ?_
      refine ev_callV (c_X0_passDays (n := m) hP1 H (by omega) (by omega)) okX0_passDays dX5_days_48 mlX5_154 rfl rfl ⟨by decide, by decide⟩ rfl (Nat.le_of_ble_eq_true rfl) (fun r48 τ48 h48 => ?_)
      obtain ⟨k, hk, rfl, e1, e2, e3⟩ := h48
      have eb := eatN_bd (pr := allp) H k
      have ek : k = m := by omega
      subst ek
      refine ev_iret dX5_days_51 rfl rfl ?_
      rw [hm2]
      refine ⟨rfl, fun a ha => ?_⟩
      funext i
      show τ48 a i = if 1 ≤ a ∧ a < 1 + 9 then dayN (wn σ 1) allp k (a - 1) i else σ a i
      by_cases hq : 1 ≤ a ∧ a < 1 + 9
      · rw [if_pos hq, ← e1]
        unfold wn
        rw [if_pos (by omega), show 1 + (a - 1) = a by omega]
      · rw [if_neg hq, e3 a (by omega) (by omega)]
    · rw [if_neg (by omega)]
      refine ev_aload_n dX5_days_31 rfl ?_
      refine ev_iconst dX5_days_32 ?_
      refine ev_V1 (c_X5_finding (by omega)) okX5_finding dX5_days_33 mlX5_55 rfl rfl ⟨by decide, by decide⟩ rfl (Nat.le_of_ble_eq_true rfl) ?_
      refine ev_iret dX5_days_36 rfl rfl ?_
      exact ⟨rfl, sameC_rf⟩
  · rw [if_neg (by omega)]
    refine ev_aload_n dX5_days_10 rfl ?_
    refine ev_iconst dX5_days_11 ?_
    refine ev_V1 (c_X5_finding (by omega)) okX5_finding dX5_days_12 mlX5_55 rfl rfl ⟨by decide, by decide⟩ rfl (Nat.le_of_ble_eq_true rfl) ?_
    refine ev_iret dX5_days_15 rfl rfl ?_
    exact ⟨rfl, sameC_rf⟩
def sc_now (σ : ev_M) (w : Int) : Int × ev_M := if 0 ≤ w ∧ w ≤ 5 then (if w = 0 then σ 1 2 else if w = 1 then σ 1 1 else if w = 2 then sm (σ 2) 48 else if w = 3 then sm (fun k => if stf (fun l => decide (σ 8 l = k)) (σ 1 8).toNat = 0 then 0 else σ 5 k) (σ 1 3).toNat else if w = 4 then sm (fun c => if 20 ≤ fear (wn σ 1) allp c then 1 else 0) 48 else stf (fun k => decide (0 < mts (wn σ 1) allp k (σ 1 8).toNat)) (σ 1 3).toNat, σ) else (-1000000001, fnd σ 0)
theorem c_X5_now {b : ev_B} {σ : ev_M} {w : Int} (H : okP (wn σ 1)) (h1 : (-2147483648 ≤ w ∧ w < 2147483648)) : Cl b mX5_now [vR 0, vI w] σ (fun r τ => r = some (vI (sc_now σ w).1) ∧ sameC (sc_now σ w).2 τ) := by
  refine ev_enter okX5_now.1 (Nat.le_of_ble_eq_true rfl) ?_
  unfold sc_now
  by_cases hw : 0 ≤ w ∧ w ≤ 5
  · rw [if_pos hw]
    refine ev_iload_n dX5_now_0 rfl ?_
    -- switch 1
    rcases (show w = 0 ∨ w = 1 ∨ w = 2 ∨ w = 3 ∨ w = 4 ∨ w = 5 by omega) with rfl | rfl | rfl | rfl | rfl | rfl
    · refine ev_tableIn (off := 39) (tgt := 40) dX5_now_1 (by omega) (by omega) (by omega) (by decide) (by decide) ?_
      refine ev_aload_n dX5_now_40 rfl ?_
      refine ev_getr 0 dX5_now_41 rfl rfl flX5_10 iwX5 (by decide) rfl ?_
      refine ev_geti 2 2 dX5_now_44 rfl rfl flX5_150 iwX2 (by decide) rfl rfl ?_
      refine ev_iret dX5_now_47 rfl rfl ?_
      exact ⟨rfl, sameC_rf⟩
    · refine ev_tableIn (off := 47) (tgt := 48) dX5_now_1 (by omega) (by omega) (by omega) (by decide) (by decide) ?_
      refine ev_aload_n dX5_now_48 rfl ?_
      refine ev_getr 0 dX5_now_49 rfl rfl flX5_10 iwX5 (by decide) rfl ?_
      refine ev_geti 1 1 dX5_now_52 rfl rfl flX5_72 iwX2 (by decide) rfl rfl ?_
      refine ev_iret dX5_now_55 rfl rfl ?_
      exact ⟨rfl, sameC_rf⟩
    · refine ev_tableIn (off := 55) (tgt := 56) dX5_now_1 (by omega) (by omega) (by omega) (by decide) (by decide) ?_
      refine ev_aload_n dX5_now_56 rfl ?_
      refine ev_getr 0 dX5_now_57 rfl rfl flX5_10 iwX5 (by decide) rfl ?_
      refine ev_V1 (c_X2_wheatOfAll hP1) okX2_wheatOfAll dX5_now_60 mlX5_158 rfl rfl ⟨by decide, by decide⟩ rfl (Nat.le_of_ble_eq_true rfl) ?_
      refine ev_iret dX5_now_63 rfl rfl ?_
      exact ⟨rfl, sameC_rf⟩
    · refine ev_tableIn (off := 63) (tgt := 64) dX5_now_1 (by omega) (by omega) (by omega) (by decide) (by decide) ?_
      refine ev_aload_n dX5_now_64 rfl ?_
      refine ev_getr 0 dX5_now_65 rfl rfl flX5_10 iwX5 (by decide) rfl ?_
      refine ev_V1 (c_X2_feesDue hP1 H) okX2_feesDue dX5_now_68 mlX5_162 rfl rfl ⟨by decide, by decide⟩ rfl (Nat.le_of_ble_eq_true rfl) ?_
      refine ev_iret dX5_now_71 rfl rfl ?_
      exact ⟨rfl, sameC_rf⟩
    · refine ev_tableIn (off := 71) (tgt := 72) dX5_now_1 (by omega) (by omega) (by omega) (by decide) (by decide) ?_
      refine ev_aload_n dX5_now_72 rfl ?_
      refine ev_getr 3 dX5_now_73 rfl rfl flX5_25 iwX5 (by decide) rfl ?_
      refine ev_aload_n dX5_now_76 rfl ?_
      refine ev_getr 0 dX5_now_77 rfl rfl flX5_10 iwX5 (by decide) rfl ?_
      refine ev_callV (c_X0_look hP1 H) okX0_look dX5_now_80 mlX5_62 rfl rfl ⟨by decide, by decide⟩ rfl (Nat.le_of_ble_eq_true rfl) (fun r80 τ80 h80 => ?_)
      obtain ⟨rfl, g1, g2, g3⟩ := h80
      have ew : wn τ80 1 = wn σ 1 := wn_congr (fun j hj => g3 (1 + j) (by omega))
      have H2 : okP (wn τ80 1) := by rw [ew]; exact H
      refine ev_aload_n dX5_now_83 rfl ?_
      refine ev_getr 3 dX5_now_84 rfl rfl flX5_25 iwX5 (by decide) rfl ?_
      refine ev_V1 (c_X0_fearedCells (fun c hc => FO_bd H2 g1 hc)) okX0_fearedCells dX5_now_87 mlX5_165 rfl rfl ⟨by decide, by decide⟩ rfl (Nat.le_of_ble_eq_true rfl) ?_
      refine ev_iret dX5_now_90 rfl rfl ?_
      refine ⟨?_, fun a ha => g3 a (by omega)⟩
      have e : sm (fun c => if 20 ≤ τ80 29 c then 1 else 0) 48 = sm (fun c => if 20 ≤ fear (wn σ 1) allp c then 1 else 0) 48 := by
        apply sm_congr
        intro i hi
        rw [FO_fear H2 g1 g2 (by omega), ew]
      rw [e]
      rfl
    · refine ev_tableIn (off := 90) (tgt := 91) dX5_now_1 (by omega) (by omega) (by omega) (by decide) (by decide) ?_
      refine ev_aload_n dX5_now_91 rfl ?_
      refine ev_getr 0 dX5_now_92 rfl rfl flX5_10 iwX5 (by decide) rfl ?_
      refine ev_V1 (c_X2_sittersWhoMeet hP1 H) okX2_sittersWhoMeet dX5_now_95 mlX5_168 rfl rfl ⟨by decide, by decide⟩ rfl (Nat.le_of_ble_eq_true rfl) ?_
      refine ev_iret dX5_now_98 rfl rfl ?_
      exact ⟨rfl, sameC_rf⟩
  · rw [if_neg hw]
    refine ev_iload_n dX5_now_0 rfl ?_
    -- switch 1
    refine ev_tableOut (tgt := 99) dX5_now_1 (by omega) (by omega) (by decide) ?_
    refine ev_aload_n dX5_now_99 rfl ?_
    refine ev_iconst dX5_now_100 ?_
    refine ev_V1 (c_X5_finding (by omega)) okX5_finding dX5_now_101 mlX5_55 rfl rfl ⟨by decide, by decide⟩ rfl (Nat.le_of_ble_eq_true rfl) ?_
    refine ev_iret dX5_now_104 rfl rfl ?_
    exact ⟨rfl, sameC_rf⟩
/-! what would be -/
theorem c_X5_eatenAsItIs {b : ev_B} {σ : ev_M} {n : Nat} (H : okP (wn σ 1)) (hn : n ≤ 60) : Cl b mX5_eatenAsItIs [vR 0, vI n] σ (fun r τ => r = some (vI (eatN (wn σ 1) allp n)) ∧ eqP (wn τ 19) (dayN (wn σ 1) allp n) ∧ sameC σ τ) := by
  refine ev_enter okX5_eatenAsItIs.1 (Nat.le_of_ble_eq_true rfl) ?_
  refine ev_aload_n dX5_eatenAsItIs_0 rfl ?_
  refine ev_getr 2 dX5_eatenAsItIs_1 rfl rfl flX5_19 iwX5 (by decide) rfl ?_
  refine ev_aload_n dX5_eatenAsItIs_4 rfl ?_
  refine ev_getr 0 dX5_eatenAsItIs_5 rfl rfl flX5_10 iwX5 (by decide) rfl ?_
  refine ev_callV (c_X2_become hP19 hP1 (by decide) H) okX2_become dX5_eatenAsItIs_8 mlX5_174 rfl rfl ⟨by decide, by decide⟩ rfl (Nat.le_of_ble_eq_true rfl) (fun r8 τ8 h8 => ?_)
  obtain ⟨rfl, g1, g2⟩ := h8
  have H2 := eqP_ok g1 H
  refine ev_aload_n dX5_eatenAsItIs_11 rfl ?_
  refine ev_getr 3 dX5_eatenAsItIs_12 rfl rfl flX5_25 iwX5 (by decide) rfl ?_
  refine ev_aload_n dX5_eatenAsItIs_15 rfl ?_
  refine ev_getr 2 dX5_eatenAsItIs_16 rfl rfl flX5_19 iwX5 (by decide) rfl ?_
  refine ev_iload_n dX5_eatenAsItIs_19 rfl ?_
  refine ev_ldc (z := 1000000) dX5_eatenAsItIs_20 kcX5_153 (by decide) ?_
  refine ev_callV (c_X0_passDays (n := n) hP19 H2 hn (by omega)) okX0_passDays dX5_eatenAsItIs_22 mlX5_154 rfl rfl ⟨by decide, by decide⟩ rfl (Nat.le_of_ble_eq_true rfl) (fun r22 τ22 h22 => ?_)
  obtain ⟨k, hk, rfl, e1, e2, e3⟩ := h22
  have eb := eatN_bd (pr := allp) H2 k
  have ek : k = n := by omega
  subst ek
  refine ev_iret dX5_eatenAsItIs_25 rfl rfl ?_
  refine ⟨by rw [eqP_eat g1 H], by rw [e1]; exact eqP_dayN g1 H k, fun a ha => ?_⟩
  rw [e3 a (by omega) (by omega), g2 a (by omega)]
def sc_eaten (σ : ev_M) (n : Int) : Int × ev_M := if 0 ≤ n ∧ n ≤ 60 then (eatN (wn σ 1) allp n.toNat, σ) else (-1000000001, fnd σ 0)
theorem c_X5_eaten {b : ev_B} {σ : ev_M} {n : Int} (H : okP (wn σ 1)) (h1 : (-2147483648 ≤ n ∧ n < 2147483648)) : Cl b mX5_eaten [vR 0, vI n] σ (fun r τ => r = some (vI (sc_eaten σ n).1) ∧ sameC (sc_eaten σ n).2 τ) := by
  refine ev_enter okX5_eaten.1 (Nat.le_of_ble_eq_true rfl) ?_
  unfold sc_eaten
  refine ev_iload_n dX5_eaten_0 rfl ?_
  refine ev_iconst dX5_eaten_1 ?_
  refine ev_bipush dX5_eaten_2 (by decide) ?_
  refine ev_Sbne (tgt := 16) (c_X5_isWithin (by omega) (by omega) (by omega)) okX5_isWithin dX5_eaten_4 mlX5_51 ⟨by decide, by decide⟩ rfl (Nat.le_of_ble_eq_true rfl) dX5_eaten_7 (by decide) (fun c4 => ?_) (fun c4 => ?_)
  · rw [if_pos (by omega)]
    obtain ⟨m, hm, hm2⟩ := nn_ex (x := n) (by omega)
    subst hm
    refine ev_aload_n dX5_eaten_16 rfl ?_
    refine ev_iload_n dX5_eaten_17 rfl ?_
    refine ev_callV (c_X5_eatenAsItIs (n := m) H (by omega)) okX5_eatenAsItIs dX5_eaten_18 mlX5_171 rfl rfl ⟨by decide, by decide⟩ rfl (Nat.le_of_ble_eq_true rfl) (fun r18 τ18 h18 => ?_)
    obtain ⟨rfl, e1, e2⟩ := h18
    refine ev_iret dX5_eaten_21 rfl rfl ?_
    rw [hm2]
    exact ⟨rfl, e2⟩
  · rw [if_neg (by omega)]
    refine ev_aload_n dX5_eaten_10 rfl ?_
    refine ev_iconst dX5_eaten_11 ?_
    refine ev_V1 (c_X5_finding (by omega)) okX5_finding dX5_eaten_12 mlX5_55 rfl rfl ⟨by decide, by decide⟩ rfl (Nat.le_of_ble_eq_true rfl) ?_
    refine ev_iret dX5_eaten_15 rfl rfl ?_
    exact ⟨rfl, sameC_rf⟩
def sc_on (σ : ev_M) (c n : Int) : Int × ev_M := if (0 ≤ c ∧ c ≤ 47) ∧ 0 ≤ n ∧ n ≤ 60 then (dayN (wn σ 1) allp n.toNat 1 c, σ) else (-1000000001, fnd σ 0)
theorem c_X5_on {b : ev_B} {σ : ev_M} {c n : Int} (H : okP (wn σ 1)) (h1 : (-2147483648 ≤ c ∧ c < 2147483648)) (h2 : (-2147483648 ≤ n ∧ n < 2147483648)) : Cl b mX5_on [vR 0, vI c, vI n] σ (fun r τ => r = some (vI (sc_on σ c n).1) ∧ sameC (sc_on σ c n).2 τ) := by
  refine ev_enter okX5_on.1 (Nat.le_of_ble_eq_true rfl) ?_
  unfold sc_on
  refine ev_iload_n dX5_on_0 rfl ?_
  refine ev_Sbeq (tgt := 17) (c_X5_isCell (by omega)) okX5_isCell dX5_on_1 mlX5_47 ⟨by decide, by decide⟩ rfl (Nat.le_of_ble_eq_true rfl) dX5_on_4 (by decide) (fun c1 => ?_) (fun c1 => ?_)
  · rw [if_neg (by omega)]
    refine ev_aload_n dX5_on_17 rfl ?_
    refine ev_iconst dX5_on_18 ?_
    refine ev_V1 (c_X5_finding (by omega)) okX5_finding dX5_on_19 mlX5_55 rfl rfl ⟨by decide, by decide⟩ rfl (Nat.le_of_ble_eq_true rfl) ?_
    refine ev_iret dX5_on_22 rfl rfl ?_
    exact ⟨rfl, sameC_rf⟩
  · refine ev_iload_n dX5_on_7 rfl ?_
    refine ev_iconst dX5_on_8 ?_
    refine ev_bipush dX5_on_9 (by decide) ?_
    refine ev_Sbne (tgt := 23) (c_X5_isWithin (by omega) (by omega) (by omega)) okX5_isWithin dX5_on_11 mlX5_51 ⟨by decide, by decide⟩ rfl (Nat.le_of_ble_eq_true rfl) dX5_on_14 (by decide) (fun c11 => ?_) (fun c11 => ?_)
    · rw [if_pos (by omega)]
      obtain ⟨m, hm, hm2⟩ := nn_ex (x := n) (by omega)
      subst hm
      refine ev_aload_n dX5_on_23 rfl ?_
      refine ev_iload_n dX5_on_24 rfl ?_
      refine ev_callV (c_X5_eatenAsItIs (n := m) H (by omega)) okX5_eatenAsItIs dX5_on_25 mlX5_171 rfl rfl ⟨by decide, by decide⟩ rfl (Nat.le_of_ble_eq_true rfl) (fun r25 τ25 h25 => ?_)
      obtain ⟨rfl, e1, e2⟩ := h25
      refine ev_pop dX5_on_28 rfl ?_
      refine ev_aload_n dX5_on_29 rfl ?_
      refine ev_getr 2 dX5_on_30 rfl rfl flX5_19 iwX5 (by decide) rfl ?_
      refine ev_getr 0 dX5_on_33 rfl rfl flX5_59 iwX2 (by decide) rfl ?_
      refine ev_iload_n dX5_on_36 rfl ?_
      refine ev_iald dX5_on_37 rfl (by omega) ?_
      refine ev_iret dX5_on_38 rfl rfl ?_
      rw [hm2, ← e1.2.2.2.2.1 c (by omega)]
      exact ⟨rfl, e2⟩
    · rw [if_neg (by omega)]
      refine ev_aload_n dX5_on_17 rfl ?_
      refine ev_iconst dX5_on_18 ?_
      refine ev_V1 (c_X5_finding (by omega)) okX5_finding dX5_on_19 mlX5_55 rfl rfl ⟨by decide, by decide⟩ rfl (Nat.le_of_ble_eq_true rfl) ?_
      refine ev_iret dX5_on_22 rfl rfl ?_
      exact ⟨rfl, sameC_rf⟩
/-- in how many days the wheat of a cell is less first, from day d on, of m days; 0: never -/
def frs (P : ev_M) (c : Int) : Nat → Nat → Int
  | _, 0 => 0
  | d, m + 1 => if dayN P allp d 1 c < P 1 c then (d : Int) else frs P c (d + 1) m
def sc_first (σ : ev_M) (c : Int) : Int × ev_M := if 0 ≤ c ∧ c ≤ 47 then (if frs (wn σ 1) c 1 60 = 0 then (-1000000004, fnd σ 3) else (frs (wn σ 1) c 1 60, σ)) else (-1000000001, fnd σ 0)
theorem c_X5_first {b : ev_B} {σ : ev_M} {c : Int} (H : okP (wn σ 1)) (h1 : (-2147483648 ≤ c ∧ c < 2147483648)) : Cl b mX5_first [vR 0, vI c] σ (fun r τ => r = some (vI (sc_first σ c).1) ∧ sameC (sc_first σ c).2 τ) := by
  refine ev_enter okX5_first.1 (Nat.le_of_ble_eq_true rfl) ?_
  unfold sc_first
  refine ev_iload_n dX5_first_0 rfl ?_
  refine ev_Sbne (tgt := 13) (c_X5_isCell (by omega)) okX5_isCell dX5_first_1 mlX5_47 ⟨by decide, by decide⟩ rfl (Nat.le_of_ble_eq_true rfl) dX5_first_4 (by decide) (fun c1 => ?_) (fun c1 => ?_)
  · rw [if_pos (by omega)]
    refine ev_aload_n dX5_first_13 rfl ?_
    refine ev_getr 2 dX5_first_14 rfl rfl flX5_19 iwX5 (by decide) rfl ?_
    refine ev_aload_n dX5_first_17 rfl ?_
    refine ev_getr 0 dX5_first_18 rfl rfl flX5_10 iwX5 (by decide) rfl ?_
    refine ev_callV (c_X2_become hP19 hP1 (by decide) H) okX2_become dX5_first_21 mlX5_174 rfl rfl ⟨by decide, by decide⟩ rfl (Nat.le_of_ble_eq_true rfl) (fun r21 τ21 h21 => ?_)
    obtain ⟨rfl, g1, g2⟩ := h21
    have H2 := eqP_ok g1 H
    have loop : ∀ (m d : Nat) (τ : ev_M), 1 ≤ d → d + m = 61 → eqP (wn τ 19) (dayN (wn σ 1) allp (d - 1)) → FO τ 19 → sameC σ τ → frs (wn σ 1) c 1 60 = frs (wn σ 1) c d m → Ev b mX5_first 37 [(0, vR 0), (1, vI c), (2, vI d)] [] τ (fun r τ => r = some (vI (if frs (wn σ 1) c 1 60 = 0 then (-1000000004, fnd σ 3) else (frs (wn σ 1) c 1 60, σ)).1) ∧ sameC (if frs (wn σ 1) c 1 60 = 0 then (-1000000004, fnd σ 3) else (frs (wn σ 1) c 1 60, σ)).2 τ) := by
      intro m
      induction m with
      | zero =>
        intro d τ hd1 hd e1 fo sc ef
        rw [ef]
        refine ev_iload_n dX5_first_37 rfl ?_
        refine ev_bipush dX5_first_38 (by decide) ?_
        refine ev_icmp_gt (tgt := 84) dX5_first_40 (by decide) (by omega) (by omega) (fun c40 => ?_) (fun c40 => ?_)
        · refine ev_aload_n dX5_first_84 rfl ?_
          refine ev_iconst dX5_first_85 ?_
          refine ev_V1 (c_X5_finding (by omega)) okX5_finding dX5_first_86 mlX5_55 rfl rfl ⟨by decide, by decide⟩ rfl (Nat.le_of_ble_eq_true rfl) ?_
          refine ev_iret dX5_first_89 rfl rfl ?_
          exact ⟨rfl, sameC_fnd sc⟩
        · exact absurd c40 (by omega)
      | succ m ih =>
        intro d τ hd1 hd e1 fo sc ef
        have Hd := okP_dayN (pr := allp) H (d - 1)
        have Hτ := eqP_ok e1 Hd
        refine ev_iload_n dX5_first_37 rfl ?_
        refine ev_bipush dX5_first_38 (by decide) ?_
        refine ev_icmp_gt (tgt := 84) dX5_first_40 (by decide) (by omega) (by omega) (fun c40 => ?_) (fun c40 => ?_)
        · exact absurd c40 (by omega)
        · refine ev_aload_n dX5_first_43 rfl ?_
          refine ev_getr 3 dX5_first_44 rfl rfl flX5_25 iwX5 (by decide) rfl ?_
          refine ev_aload_n dX5_first_47 rfl ?_
          refine ev_getr 2 dX5_first_48 rfl rfl flX5_19 iwX5 (by decide) rfl ?_
          refine ev_callV (c_X0_passDay hP19 Hτ fo) okX0_passDay dX5_first_51 mlX5_177 rfl rfl ⟨by decide, by decide⟩ rfl (Nat.le_of_ble_eq_true rfl) (fun r51 τ51 h51 => ?_)
          obtain ⟨rfl, q1, q2, q3⟩ := h51
          have ed : eqP (wn τ51 19) (dayN (wn σ 1) allp d) := by
            rw [q1]
            have q := CM_eqP (CM_day (eqP_CM e1 Hd.2.2.2.1.1) Hd).1 (okP_day Hd).2.2.2.1.1
            rw [show d = d - 1 + 1 by omega]
            exact q
          have sc2 : sameC σ τ51 := fun a ha => by rw [q3 a (by omega) (by omega)]; exact sc a ha
          have w1 : τ51 20 c = dayN (wn σ 1) allp d 1 c := ed.2.2.2.2.1 c (by omega)
          have w2 : τ51 2 c = σ 2 c := by rw [sc2 2 (by omega)]
          have b1 := (okP_dayN (pr := allp) H d).2.2.2.2.1 c (by omega)
          have b2 := okw1 H (c := c) (by omega)
          refine ev_pop dX5_first_54 rfl ?_
          refine ev_aload_n dX5_first_55 rfl ?_
          refine ev_getr 2 dX5_first_56 rfl rfl flX5_19 iwX5 (by decide) rfl ?_
          refine ev_getr 0 dX5_first_59 rfl rfl flX5_59 iwX2 (by decide) rfl ?_
          refine ev_iload_n dX5_first_62 rfl ?_
          refine ev_iald dX5_first_63 rfl (by omega) ?_
          refine ev_aload_n dX5_first_64 rfl ?_
          refine ev_getr 0 dX5_first_65 rfl rfl flX5_10 iwX5 (by decide) rfl ?_
          refine ev_getr 0 dX5_first_68 rfl rfl flX5_59 iwX2 (by decide) rfl ?_
          refine ev_iload_n dX5_first_71 rfl ?_
          refine ev_iald dX5_first_72 rfl (by omega) ?_
          refine ev_icmp_ge (tgt := 78) dX5_first_73 (by decide) (by omega) (by omega) (fun c73 => ?_) (fun c73 => ?_)
          · refine ev_iinc dX5_first_78 rfl (by decide) rfl ?_
            refine ev_goto (tgt := 37) dX5_first_81 (by decide) ?_
            refine ih (d + 1) τ51 (by omega) (by omega) ed q2 sc2 ?_
            rw [ef, frs, if_neg]
            rw [show wn σ 1 1 c = σ 2 c from rfl]
            omega
          · have e2 : frs (wn σ 1) c 1 60 = d := by
              rw [ef, frs, if_pos]
              rw [show wn σ 1 1 c = σ 2 c from rfl]
              omega
            rw [e2, if_neg (by omega)]
            refine ev_iload_n dX5_first_76 rfl ?_
            refine ev_iret dX5_first_77 rfl rfl ?_
            exact ⟨rfl, sc2⟩
    refine ev_aload_n dX5_first_24 rfl ?_
    refine ev_getr 3 dX5_first_25 rfl rfl flX5_25 iwX5 (by decide) rfl ?_
    refine ev_aload_n dX5_first_28 rfl ?_
    refine ev_getr 2 dX5_first_29 rfl rfl flX5_19 iwX5 (by decide) rfl ?_
    refine ev_callV (c_X0_look hP19 H2) okX0_look dX5_first_32 mlX5_62 rfl rfl ⟨by decide, by decide⟩ rfl (Nat.le_of_ble_eq_true rfl) (fun r32 τ32 h32 => ?_)
    obtain ⟨rfl, k1, k2, k3⟩ := h32
    refine ev_iconst dX5_first_35 ?_
    refine ev_istore_n dX5_first_36 (by decide) rfl ?_
    refine loop 60 1 _ (by omega) (by omega) ?_ k1 (fun a ha => ?_) rfl
    · rw [wn_congr (fun j hj => k3 (19 + j) (by omega))]
      exact g1
    · rw [k3 a (by omega), g2 a (by omega)]
  · rw [if_neg (by omega)]
    refine ev_aload_n dX5_first_7 rfl ?_
    refine ev_iconst dX5_first_8 ?_
    refine ev_V1 (c_X5_finding (by omega)) okX5_finding dX5_first_9 mlX5_55 rfl rfl ⟨by decide, by decide⟩ rfl (Nat.le_of_ble_eq_true rfl) ?_
    refine ev_iret dX5_first_12 rfl rfl ?_
    exact ⟨rfl, sameC_rf⟩
