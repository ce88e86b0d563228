/-! words -/
def chr (j : Nat) (i : Int) : Int := ((ev_sb.getD j []).getD i.toNat 0).toInt
def wln (j : Nat) : Nat := ev_sl.getD j 0
theorem chr_all : ∀ j : Nat, j < 13 → ∀ i : Nat, i < wln j → (97 ≤ chr j i ∧ chr j i ≤ 122) ∧ Int32.ofInt (chr j i) &&& Int32.ofInt 255 = Int32.ofInt (chr j i) ∧ ((Int32.ofInt (chr j i)).toUInt32 % 65536).toInt32 = Int32.ofInt (chr j i) ∧ narrow .char (.int (Int32.ofInt (chr j i))) = .int (Int32.ofInt (chr j i)) := by decide +kernel
theorem wln_bd : ∀ j : Nat, j < 13 → 2 ≤ wln j ∧ wln j ≤ 8 ∧ Int32.ofInt (wln j) >>> (Int32.ofInt 0 &&& 31) = Int32.ofInt (wln j) := by decide +kernel
theorem c_J0_coder {b : ev_B} {σ : ev_M} {j : Nat} (hj : j < 13) : CF b mJ0_coder_7d493 [vR (61 + j)] σ (some (vI 0)) σ := by
  refine ev_enter okJ0_coder_7d493.1 (Nat.le_of_ble_eq_true rfl) ?_
  refine ev_getCS dJ0_coder_7d493_0 flJ0_38 ?_
  refine ev_if_eq (tgt := 13) dJ0_coder_7d493_3 (by decide) (by omega) (fun c3 => ?_) (fun c3 => ?_)
  · exact absurd c3 (by omega)
  · refine ev_aload_n dJ0_coder_7d493_6 rfl ?_
    refine ev_getTc dJ0_coder_7d493_7 flJ0_15 hj ?_
    refine ev_goto (tgt := 14) dJ0_coder_7d493_10 (by decide) ?_
    refine ev_iret dJ0_coder_7d493_14 rfl (by first | rfl | exact ev_nb) ?_
    exact ⟨rfl, rfl⟩
theorem c_J0_isLatin1 {b : ev_B} {σ : ev_M} {j : Nat} (hj : j < 13) : CF b mJ0_isLatin1_aae02 [vR (61 + j)] σ (some (vI 1)) σ := by
  refine ev_enter okJ0_isLatin1_aae02.1 (Nat.le_of_ble_eq_true rfl) ?_
  refine ev_getCS dJ0_isLatin1_aae02_0 flJ0_38 ?_
  refine ev_if_eq (tgt := 17) dJ0_isLatin1_aae02_3 (by decide) (by omega) (fun c3 => ?_) (fun c3 => ?_)
  · exact absurd c3 (by omega)
  · refine ev_aload_n dJ0_isLatin1_aae02_6 rfl ?_
    refine ev_getTc dJ0_isLatin1_aae02_7 flJ0_15 hj ?_
    refine ev_if_ne (tgt := 17) dJ0_isLatin1_aae02_10 (by decide) (by omega) (fun c10 => ?_) (fun c10 => ?_)
    · exact absurd c10 (by omega)
    · refine ev_iconst dJ0_isLatin1_aae02_13 ?_
      refine ev_goto (tgt := 18) dJ0_isLatin1_aae02_14 (by decide) ?_
      refine ev_iret dJ0_isLatin1_aae02_18 rfl (by first | rfl | exact ev_nb) ?_
      exact ⟨rfl, rfl⟩
theorem c_J0_length {b : ev_B} {σ : ev_M} {j : Nat} (hj : j < 13) : CF b mJ0_length_8abf5 [vR (61 + j)] σ (some (vI (wln j))) σ := by
  refine ev_enter okJ0_length_8abf5.1 (Nat.le_of_ble_eq_true rfl) ?_
  refine ev_aload_n dJ0_length_8abf5_0 rfl ?_
  refine ev_getTv dJ0_length_8abf5_1 flJ0_9 hj ?_
  refine ev_tlen dJ0_length_8abf5_4 hj ?_
  refine ev_aload_n dJ0_length_8abf5_5 rfl ?_
  refine ev_T1 (c_J0_coder hj) okJ0_coder_7d493 dJ0_length_8abf5_6 mlJ0_335 hj rfl ⟨by decide, by decide⟩ rfl (Nat.le_of_ble_eq_true rfl) ?_
  refine ev_ishr dJ0_length_8abf5_9 (wln_bd j hj).2.2 ?_
  refine ev_iret dJ0_length_8abf5_10 rfl rfl ?_
  exact ⟨rfl, rfl⟩
theorem c_J3_checkIndex {b : ev_B} {σ : ev_M} {i n : Int} (hi : 0 ≤ i ∧ i < n) (hn : n < 1000) : CF b mJ3_checkIndex_8e157 [vI i, vI n, vX] σ (some (vI i)) σ := by
  refine ev_enter okJ3_checkIndex_8e157.1 (Nat.le_of_ble_eq_true rfl) ?_
  refine ev_iload_n dJ3_checkIndex_8e157_0 rfl ?_
  refine ev_if_lt (tgt := 9) dJ3_checkIndex_8e157_1 (by decide) (by omega) (fun c1 => ?_) (fun c1 => ?_)
  · exact absurd c1 (by omega)
  · refine ev_iload_n dJ3_checkIndex_8e157_4 rfl ?_
    refine ev_iload_n dJ3_checkIndex_8e157_5 rfl ?_
    refine ev_icmp_lt (tgt := 16) dJ3_checkIndex_8e157_6 (by decide) (by omega) (by omega) (fun c6 => ?_) (fun c6 => ?_)
    · refine ev_iload_n dJ3_checkIndex_8e157_16 rfl ?_
      refine ev_iret dJ3_checkIndex_8e157_17 rfl rfl ?_
      exact ⟨rfl, rfl⟩
    · exact absurd c6 (by omega)
theorem c_J0_checkIndex {b : ev_B} {σ : ev_M} {i n : Int} (hi : 0 ≤ i ∧ i < n) (hn : n < 1000) : CF b mJ0_checkIndex_df160 [vI i, vI n] σ none σ := by
  refine ev_enter okJ0_checkIndex_df160.1 (Nat.le_of_ble_eq_true rfl) ?_
  refine ev_iload_n dJ0_checkIndex_df160_0 rfl ?_
  refine ev_iload_n dJ0_checkIndex_df160_1 rfl ?_
  refine ev_getSF dJ0_checkIndex_df160_2 flJ0_1053 ?_
  refine ev_S1 (c_J3_checkIndex hi hn) okJ3_checkIndex_8e157 dJ0_checkIndex_df160_5 mlJ0_1059 ⟨by decide, by decide⟩ rfl (Nat.le_of_ble_eq_true rfl) ?_
  refine ev_pop dJ0_checkIndex_df160_8 rfl ?_
  refine ev_vret dJ0_checkIndex_df160_9 rfl ?_
  exact ⟨rfl, rfl⟩
theorem c_J1_charAt {b : ev_B} {σ : ev_M} {j : Nat} {i : Int} (hj : j < 13) (hi : 0 ≤ i ∧ i < wln j) : CF b mJ1_charAt_3b067 [vR (80 + j), vI i] σ (some (vI (chr j i))) σ := by
  refine ev_enter okJ1_charAt_3b067.1 (Nat.le_of_ble_eq_true rfl) ?_
  have hw := wln_bd j hj
  obtain ⟨n, rfl⟩ : ∃ n : Nat, i = n := ⟨i.toNat, by omega⟩
  have hc := chr_all j hj n (by omega)
  refine ev_iload_n dJ1_charAt_3b067_0 rfl ?_
  refine ev_aload_n dJ1_charAt_3b067_1 rfl ?_
  refine ev_tlen dJ1_charAt_3b067_2 hj ?_
  refine ev_S0 (c_J0_checkIndex hi (by omega)) okJ0_checkIndex_df160 dJ1_charAt_3b067_3 mlJ1_9 ⟨by decide, by decide⟩ rfl (Nat.le_of_ble_eq_true rfl) ?_
  refine ev_aload_n dJ1_charAt_3b067_6 rfl ?_
  refine ev_iload_n dJ1_charAt_3b067_7 rfl ?_
  refine ev_tbyte dJ1_charAt_3b067_8 hj hi ?_
  show Ev b _ _ _ [vI (chr j n)] σ _
  refine ev_sipush dJ1_charAt_3b067_9 (by decide) ?_
  refine ev_iand dJ1_charAt_3b067_12 hc.2.1 ?_
  refine ev_i2c dJ1_charAt_3b067_13 hc.2.2.1 ?_
  refine ev_iret dJ1_charAt_3b067_14 rfl hc.2.2.2 ?_
  exact ⟨rfl, rfl⟩
theorem c_J0_charAt {b : ev_B} {σ : ev_M} {j : Nat} {i : Int} (hj : j < 13) (hi : 0 ≤ i ∧ i < wln j) : CF b mJ0_charAt_5068e [vR (61 + j), vI i] σ (some (vI (chr j i))) σ := by
  refine ev_enter okJ0_charAt_5068e.1 (Nat.le_of_ble_eq_true rfl) ?_
  obtain ⟨n, rfl⟩ : ∃ n : Nat, i = n := ⟨i.toNat, by omega⟩
  have hc := chr_all j hj n (by omega)
  refine ev_aload_n dJ0_charAt_5068e_0 rfl ?_
  refine ev_T1 (c_J0_isLatin1 hj) okJ0_isLatin1_aae02 dJ0_charAt_5068e_1 mlJ0_492 hj rfl ⟨by decide, by decide⟩ rfl (Nat.le_of_ble_eq_true rfl) ?_
  refine ev_if_eq (tgt := 16) dJ0_charAt_5068e_4 (by decide) (by omega) (fun c4 => ?_) (fun c4 => ?_)
  · exact absurd c4 (by omega)
  · refine ev_aload_n dJ0_charAt_5068e_7 rfl ?_
    refine ev_getTv dJ0_charAt_5068e_8 flJ0_9 hj ?_
    refine ev_iload_n dJ0_charAt_5068e_11 rfl ?_
    refine ev_S1 (c_J1_charAt hj hi) okJ1_charAt_3b067 dJ0_charAt_5068e_12 mlJ0_495 ⟨by decide, by decide⟩ rfl (Nat.le_of_ble_eq_true rfl) ?_
    refine ev_iret dJ0_charAt_5068e_15 rfl hc.2.2.2 ?_
    exact ⟨rfl, rfl⟩
