/-! the model's likeness item -/
theorem WR_again {σ : ev_M} {x : Int} (h : WR σ x) : WR (mup σ 46 15 1) x := by
  obtain ⟨h1, h2, h3, h4, h5⟩ := h
  have e : ∀ i : Int, i ≠ 15 → mup σ 46 15 1 46 i = σ 46 i := fun i hi => mup_off hi
  refine ⟨okTR_fr (frM_m (by omega)) h1, mup_at, ?_, h4, ?_⟩
  · rw [e 12 (by decide)]; exact h3
  · rw [e 13 (by decide), e 11 (by decide)]; exact h5
theorem c_X6_likenessItem {b : ev_B} {σ : ev_M} {t : Tk} (h : LR σ t) (H : okP (wr (σ 47))) : Cl b mX6_likenessItem [vR 46] σ (fun r τ => r = none ∧ IR σ (itLik (σ 55) (σ 46 11) (wr (σ 47)) t) τ) := by
  refine ev_enter okX6_likenessItem.1 (Nat.le_of_ble_eq_true rfl) ?_
  have h0 := okr0 H
  generalize hB : σ 55 = B
  generalize hL : σ 46 11 = L
  have w58 : ∀ (τ : ev_M) (x o : Int), WR τ x → frI σ τ → Ev b mX6_likenessItem 58 [(0, vR 46), (1, vI o)] [] τ (fun r τ => r = none ∧ IR σ (.inl x) τ) := by
    intro τ x o hw fr
    have h15 := hw.2.1
    refine ev_aload_n dX6_likenessItem_58 rfl ?_
    refine ev_iconst dX6_likenessItem_59 ?_
    refine ev_bipush dX6_likenessItem_60 (by decide) ?_
    refine ev_V0 (c_num_w hw) okX6_number dX6_likenessItem_62 mlX6_273 rfl rfl ⟨by decide, by decide⟩ rfl (Nat.le_of_ble_eq_true rfl) ?_
    refine ev_aload_n dX6_likenessItem_65 rfl ?_
    refine ev_geti 15 15 dX6_likenessItem_66 rfl rfl flX6_237 iwX6 (by decide) rfl rfl ?_
    refine ev_if_ne (tgt := 82) dX6_likenessItem_69 (by decide) (by omega) (fun c69 => ?_) (fun c69 => ?_)
    · refine ev_vret dX6_likenessItem_82 rfl ?_
      exact ⟨rfl, fr.1, fr.2, hw⟩
    · exact absurd c69 (by omega)
  have w33 : ∀ (τ : ev_M) (x : Int), WR τ x → frI σ τ → Ev b mX6_likenessItem 33 [(0, vR 46)] [] τ (fun r τ => r = none ∧ IR σ (.inl x) τ) := by
    intro τ x hw fr
    refine ev_aload_n dX6_likenessItem_33 rfl ?_
    refine ev_geti 14 14 dX6_likenessItem_34 rfl rfl flX6_248 iwX6 (by decide) rfl rfl ?_
    refine ev_istore_n dX6_likenessItem_37 (by decide) rfl ?_
    refine ev_aload_n dX6_likenessItem_38 rfl ?_
    refine ev_aload_n dX6_likenessItem_39 rfl ?_
    refine ev_V1 (WR_word hw) okX6_word dX6_likenessItem_40 mlX6_255 rfl rfl ⟨by decide, by decide⟩ rfl (Nat.le_of_ble_eq_true rfl) ?_
    refine ev_ldc2 (z := 52) dX6_likenessItem_43 klX6_279 (by decide) ?_
    refine ev_lc_ne (tgt := 54) dX6_likenessItem_46 dX6_likenessItem_47 (by decide) (by omega) (by omega) (fun c46 => ?_) (fun c46 => ?_)
    · refine ev_iconst dX6_likenessItem_54 ?_
      refine ev_V0 (c_must_n (Or.inl hw.2.1) (Or.inl rfl)) okX6_must dX6_likenessItem_55 mlX6_251 rfl rfl ⟨by decide, by decide⟩ rfl (Nat.le_of_ble_eq_true rfl) ?_
      exact w58 _ x _ (WR_again hw) (frI_tr fr (frI_M (frM_m (by omega))))
    · exact absurd c46 (by omega)
  unfold itLik itLi2
  refine ev_aload_n dX6_likenessItem_0 rfl ?_
  refine ev_aload_n dX6_likenessItem_1 rfl ?_
  refine ev_getr 0 dX6_likenessItem_2 rfl rfl flX6_7 iwX6 (by decide) rfl ?_
  refine ev_iconst dX6_likenessItem_5 ?_
  refine ev_iald dX6_likenessItem_6 rfl (by omega) ?_
  refine ev_bipush dX6_likenessItem_7 (by decide) ?_
  refine ev_icmp_ge (tgt := 16) dX6_likenessItem_9 (by decide) (by omega) (by omega) (fun c9 => ?_) (fun c9 => ?_)
  · rw [if_neg (show ¬ wr (σ 47) 0 8 < 8 by show ¬ σ 47 1 < 8; omega)]
    refine ev_iconst dX6_likenessItem_16 ?_
    refine ev_V0 (c_must_n (Or.inr ⟨h.2.1, rfl⟩) (Or.inl rfl)) okX6_must dX6_likenessItem_17 mlX6_251 rfl rfl ⟨by decide, by decide⟩ rfl (Nat.le_of_ble_eq_true rfl) ?_
    have y := WR_fr h rfl
    refine ev_aload_n dX6_likenessItem_20 rfl ?_
    refine ev_iconst dX6_likenessItem_21 ?_
    refine ev_aload_n dX6_likenessItem_22 rfl ?_
    refine ev_getr 0 dX6_likenessItem_23 rfl rfl flX6_7 iwX6 (by decide) rfl ?_
    refine ev_iconst dX6_likenessItem_26 ?_
    refine ev_iald dX6_likenessItem_27 rfl (by omega) ?_
    refine ev_iconst dX6_likenessItem_28 ?_
    refine ev_isub dX6_likenessItem_29 ?_
    refine ev_V0 (c_num_w y) okX6_number dX6_likenessItem_30 mlX6_273 rfl rfl ⟨by decide, by decide⟩ rfl (Nat.le_of_ble_eq_true rfl) ?_
    exact w33 _ _ y (frI_M (frM_m (by omega)))
  · rw [if_pos (show wr (σ 47) 0 8 < 8 by show σ 47 1 < 8; omega)]
    refine ev_iconst dX6_likenessItem_12 ?_
    refine ev_goto (tgt := 17) dX6_likenessItem_13 (by decide) ?_
    refine ev_callV (c_must_y h) okX6_must dX6_likenessItem_17 mlX6_251 rfl rfl ⟨by decide, by decide⟩ rfl (Nat.le_of_ble_eq_true rfl) (fun r17 τ17 h17 => ?_)
    obtain ⟨rfl, g1, g2, g3⟩ := h17
    rw [hB, hL] at g1
    have f1 := frI_M g3
    have e47 := g3.1 47 (by decide)
    have eB : τ17 55 = B := by rw [f1.1 55 (by decide) (by decide)]; exact hB
    have eL : τ17 46 11 = L := by rw [f1.2 11 (by omega)]; exact hL
    have e0 : τ17 47 0 = σ 47 0 := by rw [e47]
    generalize tkx B L t = t1 at g1 ⊢
    refine ev_aload_n dX6_likenessItem_20 rfl ?_
    refine ev_iconst dX6_likenessItem_21 ?_
    refine ev_aload_n dX6_likenessItem_22 rfl ?_
    refine ev_getr 0 dX6_likenessItem_23 rfl rfl flX6_7 iwX6 (by decide) rfl ?_
    refine ev_iconst dX6_likenessItem_26 ?_
    refine ev_iald dX6_likenessItem_27 rfl (by omega) ?_
    rw [e0]
    refine ev_iconst dX6_likenessItem_28 ?_
    refine ev_isub dX6_likenessItem_29 ?_
    refine ev_callV (c_num g1 (by omega) (by omega) (by omega)) okX6_number dX6_likenessItem_30 mlX6_273 rfl rfl ⟨by decide, by decide⟩ rfl (Nat.le_of_ble_eq_true rfl) (fun r30 τ30 h30 => ?_)
    obtain ⟨rfl, n1, n2, n3⟩ := h30
    rw [eB, eL] at n2
    rw [eB] at n3
    have f2 := frI_tr f1 (frI_M n1)
    have es : wr (σ 47) 0 3 = σ 47 0 := rfl
    rw [es]
    by_cases hn : isNm B t1 0 (σ 47 0 - 1)
    · rw [if_pos hn]
      obtain ⟨y1, y2⟩ := n2 hn
      have hn2 := hn.2
      generalize hv : nmt B t1 = o at *
      generalize tkx B L t1 = t2 at *
      have e2B : τ30 55 = B := by rw [f2.1 55 (by decide) (by decide)]; exact hB
      have e2L : τ30 46 11 = L := by rw [f2.2 11 (by omega)]; exact hL
      have w9 := LR_wd (j := 9) (by decide) y1
      rw [wcn_all.2.2.2.2.1, e2B] at w9
      have wb := wdv_bd (B := B) (t := t2)
      have wl := LR_word (b := b) y1
      rw [e2B] at wl
      refine ev_aload_n dX6_likenessItem_33 rfl ?_
      refine ev_geti 14 14 dX6_likenessItem_34 rfl rfl flX6_248 iwX6 (by decide) rfl rfl ?_
      rw [y2]
      refine ev_istore_n dX6_likenessItem_37 (by decide) rfl ?_
      refine ev_aload_n dX6_likenessItem_38 rfl ?_
      refine ev_aload_n dX6_likenessItem_39 rfl ?_
      refine ev_V1 wl okX6_word dX6_likenessItem_40 mlX6_255 rfl rfl ⟨by decide, by decide⟩ rfl (Nat.le_of_ble_eq_true rfl) ?_
      refine ev_ldc2 (z := 52) dX6_likenessItem_43 klX6_279 (by decide) ?_
      refine ev_lc_ne (tgt := 54) dX6_likenessItem_46 dX6_likenessItem_47 (by decide) (by omega) (by omega) (fun c46 => ?_) (fun c46 => ?_)
      · rw [if_neg (fun z => c46 (w9.mpr z))]
        refine ev_iconst dX6_likenessItem_54 ?_
        refine ev_V0 (c_must_n (Or.inr ⟨y1.2.1, rfl⟩) (Or.inl rfl)) okX6_must dX6_likenessItem_55 mlX6_251 rfl rfl ⟨by decide, by decide⟩ rfl (Nat.le_of_ble_eq_true rfl) ?_
        exact w58 _ _ _ (WR_fr y1 rfl) (frI_tr f2 (frI_M (frM_m (by omega))))
      · rw [if_pos (w9.mp c46)]
        refine ev_iconst dX6_likenessItem_50 ?_
        refine ev_goto (tgt := 55) dX6_likenessItem_51 (by decide) ?_
        refine ev_callV (c_must_y y1) okX6_must dX6_likenessItem_55 mlX6_251 rfl rfl ⟨by decide, by decide⟩ rfl (Nat.le_of_ble_eq_true rfl) (fun r55 τ55 h55 => ?_)
        obtain ⟨rfl, q1, q2, q3⟩ := h55
        rw [e2B, e2L] at q1
        have f3 := frI_tr f2 (frI_M q3)
        have e3B : τ55 55 = B := by rw [f3.1 55 (by decide) (by decide)]; exact hB
        have e3L : τ55 46 11 = L := by rw [f3.2 11 (by omega)]; exact hL
        generalize tkx B L t2 = t3 at q1 ⊢
        refine ev_aload_n dX6_likenessItem_58 rfl ?_
        refine ev_iconst dX6_likenessItem_59 ?_
        refine ev_bipush dX6_likenessItem_60 (by decide) ?_
        refine ev_callV (c_num q1 (by omega) (by omega) (by omega)) okX6_number dX6_likenessItem_62 mlX6_273 rfl rfl ⟨by decide, by decide⟩ rfl (Nat.le_of_ble_eq_true rfl) (fun r62 τ62 h62 => ?_)
        obtain ⟨rfl, m1, m2, m3⟩ := h62
        rw [e3B, e3L] at m2
        rw [e3B] at m3
        have f4 := frI_tr f3 (frI_M m1)
        have e47' : τ62 47 = σ 47 := by rw [m1.1 47 (by decide), q3.1 47 (by decide), n1.1 47 (by decide), e47]
        by_cases hm : isNm B t3 0 47
        · rw [if_pos hm]
          obtain ⟨x1, x2⟩ := m2 hm
          have x15 := x1.2.1
          refine ev_aload_n dX6_likenessItem_65 rfl ?_
          refine ev_geti 15 15 dX6_likenessItem_66 rfl rfl flX6_237 iwX6 (by decide) rfl rfl ?_
          refine ev_if_ne (tgt := 82) dX6_likenessItem_69 (by decide) (by omega) (fun c69 => ?_) (fun c69 => ?_)
          · exact absurd x15 c69
          · refine ev_aload_n dX6_likenessItem_72 rfl ?_
            refine ev_iload_n dX6_likenessItem_73 rfl ?_
            refine ev_aload_n dX6_likenessItem_74 rfl ?_
            refine ev_geti 14 14 dX6_likenessItem_75 rfl rfl flX6_248 iwX6 (by decide) rfl rfl ?_
            rw [x2]
            refine ev_V1 (c_X6_puts (by rw [e47']; omega)) okX6_puts dX6_likenessItem_78 mlX6_140 rfl rfl ⟨by decide, by decide⟩ rfl (Nat.le_of_ble_eq_true rfl) ?_
            refine ev_istore_n dX6_likenessItem_81 (by decide) rfl ?_
            refine ev_vret dX6_likenessItem_82 rfl ?_
            rw [e47']
            refine ⟨rfl, fun a h1 h2 => by rw [srow_ne h2]; exact f4.1 a h1 h2, fun i hi => by rw [srow_ne (by decide)]; exact f4.2 i hi, LR_47 x1 (srow_ne (by decide)) (srow_ne (by decide)), ?_⟩
            rw [srow_at]
            exact eqP_symm (eqP_putR H (by omega))
        · rw [if_neg hm]
          have x := m3 hm
          have x15 := x.2.1
          refine ev_aload_n dX6_likenessItem_65 rfl ?_
          refine ev_geti 15 15 dX6_likenessItem_66 rfl rfl flX6_237 iwX6 (by decide) rfl rfl ?_
          refine ev_if_ne (tgt := 82) dX6_likenessItem_69 (by decide) (by omega) (fun c69 => ?_) (fun c69 => ?_)
          · refine ev_vret dX6_likenessItem_82 rfl ?_
            exact ⟨rfl, f4.1, f4.2, x⟩
          · exact absurd c69 (by omega)
    · rw [if_neg hn]
      exact w33 _ _ (n3 hn) f2
