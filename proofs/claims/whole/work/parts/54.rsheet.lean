/-! the model's sheets -/
theorem s4 {s : Int} (h : 0 ≤ s ∧ s ≤ 3) : s = 0 ∨ s = 1 ∨ s = 2 ∨ s = 3 := by omega
theorem pS1 {σ : ev_M} {s : Int} (h : 0 ≤ s ∧ s ≤ 3) : prj σ (ev_rt s.toNat) 1 = σ 56 s := by
  rcases s4 h with rfl | rfl | rfl | rfl <;> rfl
theorem pS2 {σ : ev_M} {s : Int} (h : 0 ≤ s ∧ s ≤ 3) : prj σ (ev_rt s.toNat) 2 = σ 57 s := by
  rcases s4 h with rfl | rfl | rfl | rfl <;> rfl
theorem pS3 {σ : ev_M} {s i : Int} (h : 0 ≤ s ∧ s ≤ 3) : prj σ (ev_rt s.toNat + 1) i = σ 58 (40 * s + i) := by
  rcases s4 h with rfl | rfl | rfl | rfl
  · rw [show (40 : Int) * 0 + i = i by omega]; rfl
  · rw [show (40 : Int) * 1 + i = 40 + i by omega]; rfl
  · rw [show (40 : Int) * 2 + i = 80 + i by omega]; rfl
  · rw [show (40 : Int) * 3 + i = 120 + i by omega]; rfl
theorem rt_of {q : Nat} (h : isS q) : ∃ t : Int, (0 ≤ t ∧ t ≤ 3) ∧ ev_rt t.toNat = q := by
  rcases h with rfl | rfl | rfl | rfl
  · exact ⟨0, by omega, rfl⟩
  · exact ⟨1, by omega, rfl⟩
  · exact ⟨2, by omega, rfl⟩
  · exact ⟨3, by omega, rfl⟩
theorem REL_sheet {σ τ A : ev_M} {s : Int} (hs : 0 ≤ s ∧ s ≤ 3) (hA : ∀ a : Nat, a ≠ ev_rt s.toNat → a ≠ ev_rt s.toNat + 1 → A a = prj σ a) (h5 : τ 46 5 = σ 46 5) (h11 : τ 46 11 = σ 46 11) (h47 : eqP (wr (σ 47)) (wr (τ 47))) (h : ∀ a : Nat, a = 48 ∨ a = 51 ∨ a = 55 → τ a = σ a) (h56 : ∀ x : Int, x ≠ s → τ 56 x = σ 56 x) (h57 : ∀ x : Int, x ≠ s → τ 57 x = σ 57 x) (h58 : ∀ x : Int, x < 40 * s ∨ 40 * s + 40 ≤ x → τ 58 x = σ 58 x) (c1 : A (ev_rt s.toNat) 1 = τ 56 s) (c2 : A (ev_rt s.toNat) 2 = τ 57 s) (c3 : ∀ i : Int, 0 ≤ i ∧ i < 40 → A (ev_rt s.toNat + 1) i = τ 58 (40 * s + i)) : REL A (prj τ) := by
  have hr : 37 ≤ ev_rt s.toNat ∧ ev_rt s.toNat ≤ 43 := by unfold ev_rt; omega
  refine ⟨?_, ?_, ?_, ?_, fun i hi => ?_, fun q hq => ?_, fun i hi => ?_⟩
  · rw [wn_congr (σ := prj σ) (fun j hj => hA (1 + j) (by omega) (by omega)), prj_1, prj_1]; exact h47
  · rw [wn_congr (σ := prj σ) (fun j hj => hA (10 + j) (by omega) (by omega)), prj_10, prj_10, h 48 (by omega)]; exact eqP_rf
  · rw [hA 0 (by omega) (by omega)]; exact h5.symm
  · rw [hA 34 (by omega) (by omega)]; exact h11.symm
  · rw [hA 35 (by omega) (by omega)]; show σ 55 i = τ 55 i; rw [h 55 (by omega)]
  · obtain ⟨t, ht, rfl⟩ := rt_of hq
    by_cases e : t = s
    · subst e
      rw [pS1 ht, pS2 ht]
      exact ⟨c1, c2, fun i hi => by rw [pS3 ht]; exact c3 i hi⟩
    · have n1 : ev_rt t.toNat ≠ ev_rt s.toNat := by unfold ev_rt; omega
      have n2 : ev_rt t.toNat ≠ ev_rt s.toNat + 1 := by unfold ev_rt; omega
      have n3 : ev_rt t.toNat + 1 ≠ ev_rt s.toNat := by unfold ev_rt; omega
      rw [hA _ n1 n2, hA (ev_rt t.toNat + 1) n3 (by omega), pS1 ht, pS2 ht, pS1 ht, pS2 ht]
      refine ⟨(h56 t e).symm, (h57 t e).symm, fun i hi => ?_⟩
      rw [pS3 ht, pS3 ht, h58 _ (by omega)]
  · rw [hA 45 (by omega) (by omega)]; show σ 51 i = τ 51 i; rw [h 51 (by omega)]
theorem c_X6_narrowed {b : ev_B} {σ : ev_M} {bits v : Int} (h : bits = 0 ∨ bits = 8 ∨ bits = 16 ∨ bits = 64) : CF b mX6_narrowed [vI bits, vL v] σ (some (vL (cutv bits v))) σ := by
  refine ev_enter okX6_narrowed.1 (Nat.le_of_ble_eq_true rfl) ?_
  have b1 := i32b (Int32.ofInt v).toInt8.toInt32
  have b2 := i32b (Int32.ofInt v).toInt16.toInt32
  unfold cutv
  refine ev_iload_n dX6_narrowed_0 rfl ?_
  refine ev_bipush dX6_narrowed_1 (by decide) ?_
  refine ev_icmp_ne (tgt := 13) dX6_narrowed_3 (by decide) (by omega) (by omega) (fun c3 => ?_) (fun c3 => ?_)
  · rw [if_neg c3]
    refine ev_iload_n dX6_narrowed_13 rfl ?_
    refine ev_bipush dX6_narrowed_14 (by decide) ?_
    refine ev_icmp_ne (tgt := 26) dX6_narrowed_16 (by decide) (by omega) (by omega) (fun c16 => ?_) (fun c16 => ?_)
    · rw [if_neg c16]
      refine ev_lload_n dX6_narrowed_26 rfl ?_
      refine ev_lret dX6_narrowed_27 rfl ?_
      exact ⟨rfl, rfl⟩
    · rw [if_pos c16]
      refine ev_lload_n dX6_narrowed_19 rfl ?_
      refine ev_l2i dX6_narrowed_20 ?_
      refine ev_i2s dX6_narrowed_21 (Int32.ofInt_toInt _).symm ?_
      refine ev_i2l dX6_narrowed_22 (by omega) ?_
      refine ev_goto (tgt := 27) dX6_narrowed_23 (by decide) ?_
      refine ev_lret dX6_narrowed_27 rfl ?_
      exact ⟨rfl, rfl⟩
  · rw [if_pos c3]
    refine ev_lload_n dX6_narrowed_6 rfl ?_
    refine ev_l2i dX6_narrowed_7 ?_
    refine ev_i2b dX6_narrowed_8 (Int32.ofInt_toInt _).symm ?_
    refine ev_i2l dX6_narrowed_9 (by omega) ?_
    refine ev_goto (tgt := 27) dX6_narrowed_10 (by decide) ?_
    refine ev_lret dX6_narrowed_27 rfl ?_
    exact ⟨rfl, rfl⟩
theorem c_X6_wrongSheet {b : ev_B} {σ : ev_M} {s : Int} (h1 : (-2147483648 ≤ s ∧ s < 2147483648)) (hb : 0 ≤ s ∧ s ≤ 3 → 0 ≤ σ 56 s ∧ σ 56 s ≤ 64) : CF b mX6_wrongSheet [vR 46, vI s] σ (some (vI (if ¬ (0 ≤ s ∧ s ≤ 3) then -1000000001 else if σ 56 s = 0 then -1000000006 else 0))) σ := by
  refine ev_enter okX6_wrongSheet.1 (Nat.le_of_ble_eq_true rfl) ?_
  refine ev_iload_n dX6_wrongSheet_0 rfl ?_
  refine ev_Sbne (tgt := 12) (c_X6_isOne (by omega)) okX6_isOne dX6_wrongSheet_1 mlX6_313 ⟨by decide, by decide⟩ rfl (Nat.le_of_ble_eq_true rfl) dX6_wrongSheet_4 (by decide) (fun c1 => ?_) (fun c1 => ?_)
  · rw [if_neg (by omega)]
    have hb2 := hb c1
    refine ev_aload_n dX6_wrongSheet_12 rfl ?_
    refine ev_getr 16 dX6_wrongSheet_13 rfl rfl flX6_37 iwX6 (by decide) rfl ?_
    refine ev_iload_n dX6_wrongSheet_16 rfl ?_
    refine ev_iald dX6_wrongSheet_17 rfl (by omega) ?_
    refine ev_if_ne (tgt := 27) dX6_wrongSheet_18 (by decide) (by omega) (fun c18 => ?_) (fun c18 => ?_)
    · rw [if_neg c18]
      refine ev_iconst dX6_wrongSheet_27 ?_
      refine ev_iret dX6_wrongSheet_28 rfl rfl ?_
      exact ⟨rfl, rfl⟩
    · rw [if_pos c18]
      refine ev_ldcw (z := -1000000006) dX6_wrongSheet_21 kcX6_317 (by decide) ?_
      refine ev_goto (tgt := 28) dX6_wrongSheet_24 (by decide) ?_
      refine ev_iret dX6_wrongSheet_28 rfl rfl ?_
      exact ⟨rfl, rfl⟩
  · rw [if_pos c1]
    refine ev_ldc (z := -1000000001) dX6_wrongSheet_7 kcX6_50 (by decide) ?_
    refine ev_goto (tgt := 28) dX6_wrongSheet_9 (by decide) ?_
    refine ev_iret dX6_wrongSheet_28 rfl rfl ?_
    exact ⟨rfl, rfl⟩
def RPL (σ : ev_M) (x : Int × ev_M) (r : Option ev_V) (τ : ev_M) : Prop := r = some (vL x.1) ∧ REL x.2 (prj τ) ∧ (∀ a : Nat, a < 46 → τ a = σ a) ∧ τ 46 6 = 0
theorem RPL_of {σ τ : ev_M} {x : Int × ev_M} {v : Int} (e : v = x.1) (h : RP σ x (some (vI v)) τ) : RPL σ x (some (vL v)) τ := by
  subst e
  exact ⟨rfl, h.2⟩
/-- what holds of the model's sheets -/
def okSR (σ : ev_M) : Prop := ∀ s : Int, 0 ≤ s ∧ s ≤ 3 → (σ 56 s = 0 ∨ σ 56 s = 8 ∨ σ 56 s = 16 ∨ σ 56 s = 64) ∧ (0 ≤ σ 57 s ∧ σ 57 s ≤ 40) ∧ ∀ i : Int, 0 ≤ i ∧ i < 40 → (-9223372036854775808 ≤ σ 58 (40 * s + i) ∧ σ 58 (40 * s + i) < 9223372036854775808)
theorem okSR_of {σ : ev_M} (h : okS (prj σ)) : okSR σ := fun s hs => by
  have q := h (ev_rt s.toNat) (isS_rt hs)
  rw [pS1 hs, pS2 hs] at q
  exact ⟨q.1, q.2.1, fun i hi => by have := q.2.2 i hi; rw [pS3 hs] at this; exact this⟩
theorem c_X6_write {b : ev_B} {σ : ev_M} {s i v : Int} (HS : okSR σ) (ha : σ 46 6 = 0) (h1 : (-2147483648 ≤ s ∧ s < 2147483648)) (h2 : (-2147483648 ≤ i ∧ i < 2147483648)) : Cl b mX6_write [vR 46, vI s, vI i, vL v] σ (RPL σ (sc_write (prj σ) s i v)) := by
  refine ev_enter okX6_write.1 (Nat.le_of_ble_eq_true rfl) ?_
  unfold sc_write
  have hb : 0 ≤ s ∧ s ≤ 3 → 0 ≤ σ 56 s ∧ σ 56 s ≤ 64 := fun h => by have := (HS s h).1; omega
  refine ev_aload_n dX6_write_0 rfl ?_
  refine ev_iload_n dX6_write_1 rfl ?_
  refine ev_V1 (c_X6_wrongSheet h1 hb) okX6_wrongSheet dX6_write_2 mlX6_318 rfl rfl ⟨by decide, by decide⟩ rfl (Nat.le_of_ble_eq_true rfl) ?_
  by_cases hs : 0 ≤ s ∧ s ≤ 3
  · have hs' : ¬ ¬ (0 ≤ s ∧ s ≤ 3) := fun z => z hs
    rw [if_neg hs', if_neg hs', pS1 hs, pS2 hs]
    obtain ⟨q1, q2, q3⟩ := HS s hs
    by_cases h0 : σ 56 s = 0
    · rw [if_pos h0, if_pos h0]
      refine ev_istore dX6_write_5 (by decide) rfl ?_
      refine ev_iload dX6_write_7 rfl ?_
      refine ev_if_eq (tgt := 20) dX6_write_9 (by decide) (by omega) (fun c9 => ?_) (fun c9 => ?_)
      · exact absurd c9 (by omega)
      · refine ev_aload_n dX6_write_12 rfl ?_
        refine ev_iload dX6_write_13 rfl ?_
        refine ev_V1 (c_X6_finds (by omega)) okX6_finds dX6_write_15 mlX6_101 rfl rfl ⟨by decide, by decide⟩ rfl (Nat.le_of_ble_eq_true rfl) ?_
        refine ev_i2l dX6_write_18 (by omega) ?_
        refine ev_lret dX6_write_19 rfl ?_
        exact RPL_of rfl (RP_fnd ha)
    · rw [if_neg h0, if_neg h0]
      refine ev_istore dX6_write_5 (by decide) rfl ?_
      refine ev_iload dX6_write_7 rfl ?_
      refine ev_if_eq (tgt := 20) dX6_write_9 (by decide) (by omega) (fun c9 => ?_) (fun c9 => ?_)
      · refine ev_iload_n dX6_write_20 rfl ?_
        refine ev_i2l dX6_write_21 (by omega) ?_
        refine ev_lconst (z := 0) dX6_write_22 rfl ?_
        refine ev_aload_n dX6_write_23 rfl ?_
        refine ev_getr 17 dX6_write_24 rfl rfl flX6_40 iwX6 (by decide) rfl ?_
        refine ev_iload_n dX6_write_27 rfl ?_
        refine ev_iald dX6_write_28 rfl (by omega) ?_
        refine ev_iconst dX6_write_29 ?_
        refine ev_isub dX6_write_30 ?_
        refine ev_i2l dX6_write_31 (by omega) ?_
        refine ev_Sbne (tgt := 46) (c_X6_in (by omega) (by omega) (by omega)) okX6_in dX6_write_32 mlX6_53 ⟨by decide, by decide⟩ rfl (Nat.le_of_ble_eq_true rfl) dX6_write_35 (by decide) (fun c32 => ?_) (fun c32 => ?_)
        · rw [if_neg (by omega)]
          refine ev_aload_n dX6_write_46 rfl ?_
          refine ev_getr 18 dX6_write_47 rfl rfl flX6_43 iwX6 (by decide) rfl ?_
          refine ev_bipush dX6_write_50 (by decide) ?_
          refine ev_iload_n dX6_write_52 rfl ?_
          refine ev_imul dX6_write_53 ?_
          refine ev_iload_n dX6_write_54 rfl ?_
          refine ev_iadd dX6_write_55 ?_
          refine ev_lald dX6_write_56 rfl (by omega) ?_
          refine ev_lstore dX6_write_57 (by decide) rfl ?_
          refine ev_aload_n dX6_write_59 rfl ?_
          refine ev_getr 18 dX6_write_60 rfl rfl flX6_43 iwX6 (by decide) rfl ?_
          refine ev_bipush dX6_write_63 (by decide) ?_
          refine ev_iload_n dX6_write_65 rfl ?_
          refine ev_imul dX6_write_66 ?_
          refine ev_iload_n dX6_write_67 rfl ?_
          refine ev_iadd dX6_write_68 ?_
          refine ev_aload_n dX6_write_69 rfl ?_
          refine ev_getr 16 dX6_write_70 rfl rfl flX6_37 iwX6 (by decide) rfl ?_
          refine ev_iload_n dX6_write_73 rfl ?_
          refine ev_iald dX6_write_74 rfl (by omega) ?_
          refine ev_lload_n dX6_write_75 rfl ?_
          refine ev_S1 (c_X6_narrowed q1) okX6_narrowed dX6_write_76 mlX6_321 ⟨by decide, by decide⟩ rfl (Nat.le_of_ble_eq_true rfl) ?_
          refine ev_last dX6_write_79 rfl (by omega) ?_
          refine ev_lload dX6_write_80 rfl ?_
          refine ev_lret dX6_write_82 rfl ?_
          rw [pS3 hs]
          refine ⟨rfl, REL_sheet hs (fun a _ q => mup_ne q) rfl rfl eqP_rf (fun a hx => mup_ne (by omega)) (fun x _ => by rw [mup_ne (by decide)]) (fun x _ => by rw [mup_ne (by decide)]) (fun x hx => by rw [mup_off (by omega)]) ?_ ?_ (fun j hj => ?_), fun a hx => mup_ne (by omega), ha⟩
          · show mup (prj σ) (ev_rt s.toNat + 1) i _ (ev_rt s.toNat) 1 = mup σ 58 _ _ 56 s
            rw [mup_ne (by omega), mup_ne (by decide), pS1 hs]
          · show mup (prj σ) (ev_rt s.toNat + 1) i _ (ev_rt s.toNat) 2 = mup σ 58 _ _ 57 s
            rw [mup_ne (by omega), mup_ne (by decide), pS2 hs]
          · show mup (prj σ) (ev_rt s.toNat + 1) i _ (ev_rt s.toNat + 1) j = mup σ 58 (40 * s + i) _ 58 (40 * s + j)
            by_cases e : j = i
            · rw [e, mup_at, mup_at]
            · rw [mup_off e, mup_off (by omega), pS3 hs]
        · rw [if_pos (by omega)]
          refine ev_aload_n dX6_write_38 rfl ?_
          refine ev_ldc (z := -1000000001) dX6_write_39 kcX6_50 (by decide) ?_
          refine ev_V1 (c_X6_finds (by omega)) okX6_finds dX6_write_41 mlX6_101 rfl rfl ⟨by decide, by decide⟩ rfl (Nat.le_of_ble_eq_true rfl) ?_
          refine ev_i2l dX6_write_44 (by omega) ?_
          refine ev_lret dX6_write_45 rfl ?_
          exact RPL_of rfl (RP_fnd ha)
      · exact absurd rfl c9
  · rw [if_pos hs, if_pos hs]
    refine ev_istore dX6_write_5 (by decide) rfl ?_
    refine ev_iload dX6_write_7 rfl ?_
    refine ev_if_eq (tgt := 20) dX6_write_9 (by decide) (by omega) (fun c9 => ?_) (fun c9 => ?_)
    · exact absurd c9 (by omega)
    · refine ev_aload_n dX6_write_12 rfl ?_
      refine ev_iload dX6_write_13 rfl ?_
      refine ev_V1 (c_X6_finds (by omega)) okX6_finds dX6_write_15 mlX6_101 rfl rfl ⟨by decide, by decide⟩ rfl (Nat.le_of_ble_eq_true rfl) ?_
      refine ev_i2l dX6_write_18 (by omega) ?_
      refine ev_lret dX6_write_19 rfl ?_
      exact RPL_of rfl (RP_fnd ha)
