/-! the model's sitter item -/
def IR (σ : ev_M) (res : Rs) (τ : ev_M) : Prop := (∀ a : Nat, a ≠ 46 → a ≠ 47 → τ a = σ a) ∧ (∀ i : Int, i < 12 ∨ 15 < i → τ 46 i = σ 46 i) ∧ match res with
  | .inl x => WR τ x
  | .inr (t, P) => LR τ t ∧ eqP (wr (τ 47)) P
def frI (σ τ : ev_M) : Prop := (∀ a : Nat, a ≠ 46 → a ≠ 47 → τ a = σ a) ∧ (∀ i : Int, i < 12 ∨ 15 < i → τ 46 i = σ 46 i)
theorem frI_M {σ τ : ev_M} (h : frM σ τ) : frI σ τ := ⟨fun a h1 _ => h.1 a h1, h.2⟩
theorem frI_tr {σ τ ω : ev_M} (h : frI σ τ) (g : frI τ ω) : frI σ ω := ⟨fun a h1 h2 => by rw [g.1 a h1 h2, h.1 a h1 h2], fun i hi => by rw [g.2 i hi, h.2 i hi]⟩
theorem frI_m {σ : ev_M} {i v : Int} : frI σ (mup σ 47 i v) := ⟨fun a _ h2 => mup_ne h2, fun i _ => by rw [mup_ne (by decide)]⟩
theorem LR_47 {σ τ : ev_M} {t : Tk} (h : LR σ t) (e46 : τ 46 = σ 46) (e55 : τ 55 = σ 55) : LR τ t := by
  unfold LR okTR at h ⊢
  rw [e46, e55]
  exact h
theorem WR_47 {σ τ : ev_M} {x : Int} (h : WR σ x) (e46 : τ 46 = σ 46) (e55 : τ 55 = σ 55) : WR τ x := by
  unfold WR okTR at h ⊢
  rw [e46, e55]
  exact h
theorem WR_fr {σ : ev_M} {x : Int} {t : Tk} (h : LR σ t) (hx : t.2.1 = x) : WR (mup σ 46 15 1) x := by
  obtain ⟨h1, h2, h3, h4, h5, h6⟩ := h
  have t1 := h1.1
  refine ⟨okTR_fr (frM_m (by omega)) h1, mup_at, ?_, by omega, ?_⟩
  · rw [mup_off (by decide), h3]; exact hx
  · have e13 : mup σ 46 15 1 46 13 = σ 46 13 := mup_off (by decide)
    have e11 : mup σ 46 15 1 46 11 = σ 46 11 := mup_off (by decide)
    rw [e13, e11]; omega
theorem c_X6_sitterItem {b : ev_B} {σ : ev_M} {t : Tk} {k : Int} (h : LR σ t) (H : okP (wr (σ 47))) (hk : 0 ≤ k ∧ k ≤ 5) : Cl b mX6_sitterItem [vR 46, vI k] σ (fun r τ => r = none ∧ IR σ (itSit (σ 55) (σ 46 11) (wr (σ 47)) k t) τ) := by
  refine ev_enter okX6_sitterItem.1 (Nat.le_of_ble_eq_true rfl) ?_
  have h0 := okr0 H
  generalize hB : σ 55 = B
  generalize hL : σ 46 11 = L
  generalize hs : σ 47 0 = s at h0
  have wrong : ∀ (τ : ev_M) (x : Int), WR τ x → frI σ τ → Ev b mX6_sitterItem 71 [(0, vR 46), (1, vI k), (2, vI s)] [] τ (fun r τ => r = none ∧ IR σ (.inl x) τ) := by
    intro τ x hw fr
    refine ev_aload_n dX6_sitterItem_71 rfl ?_
    refine ev_V1 (WR_word hw) okX6_word dX6_sitterItem_72 mlX6_255 rfl rfl ⟨by decide, by decide⟩ rfl (Nat.le_of_ble_eq_true rfl) ?_
    refine ev_ldc2 (z := 6309) dX6_sitterItem_75 klX6_277 (by decide) ?_
    refine ev_lc_ne (tgt := 108) dX6_sitterItem_78 dX6_sitterItem_79 (by decide) (by omega) (by omega) (fun c78 => ?_) (fun c78 => ?_)
    · refine ev_vret dX6_sitterItem_108 rfl ?_
      exact ⟨rfl, fr.1, fr.2, hw⟩
    · exact absurd c78 (by omega)
  have fee : s < 6 → ∀ (τ : ev_M) (t : Tk) (P : ev_M), LR τ t → okP P → eqP (wr (τ 47)) P → s < P 0 3 → frI σ τ → Ev b mX6_sitterItem 71 [(0, vR 46), (1, vI k), (2, vI s)] [] τ (fun r τ => r = none ∧ IR σ (itFee B L P s t) τ) := by
    intro h6 τ t P hl HP e hsP fr
    have eB : τ 55 = B := by rw [fr.1 55 (by decide) (by decide)]; exact hB
    have eL : τ 46 11 = L := by rw [fr.2 11 (by omega)]; exact hL
    have w7 := LR_wd (j := 7) (by decide) hl
    rw [wcn_all.2.2.1, eB] at w7
    have wb := wdv_bd (B := B) (t := t)
    have wl := LR_word (b := b) hl
    rw [eB] at wl
    unfold itFee
    refine ev_aload_n dX6_sitterItem_71 rfl ?_
    refine ev_V1 wl okX6_word dX6_sitterItem_72 mlX6_255 rfl rfl ⟨by decide, by decide⟩ rfl (Nat.le_of_ble_eq_true rfl) ?_
    refine ev_ldc2 (z := 6309) dX6_sitterItem_75 klX6_277 (by decide) ?_
    refine ev_lc_ne (tgt := 108) dX6_sitterItem_78 dX6_sitterItem_79 (by decide) (by omega) (by omega) (fun c78 => ?_) (fun c78 => ?_)
    · rw [if_neg (fun z => c78 (w7.mpr z))]
      refine ev_vret dX6_sitterItem_108 rfl ?_
      exact ⟨rfl, fr.1, fr.2, hl, e⟩
    · rw [if_pos (w7.mp c78)]
      refine ev_aload_n dX6_sitterItem_82 rfl ?_
      refine ev_iconst dX6_sitterItem_83 ?_
      refine ev_callV (c_must_y hl) okX6_must dX6_sitterItem_84 mlX6_251 rfl rfl ⟨by decide, by decide⟩ rfl (Nat.le_of_ble_eq_true rfl) (fun r84 τ84 h84 => ?_)
      obtain ⟨rfl, g1, g2, g3⟩ := h84
      rw [eB, eL] at g1
      have fr1 := frI_tr fr (frI_M g3)
      have e1B : τ84 55 = B := by rw [fr1.1 55 (by decide) (by decide)]; exact hB
      have e1L : τ84 46 11 = L := by rw [fr1.2 11 (by omega)]; exact hL
      generalize tkx B L t = t1 at g1 ⊢
      refine ev_aload_n dX6_sitterItem_87 rfl ?_
      refine ev_iconst dX6_sitterItem_88 ?_
      refine ev_bipush dX6_sitterItem_89 (by decide) ?_
      refine ev_callV (c_num g1 (by omega) (by omega) (by omega)) okX6_number dX6_sitterItem_91 mlX6_273 rfl rfl ⟨by decide, by decide⟩ rfl (Nat.le_of_ble_eq_true rfl) (fun r91 τ91 h91 => ?_)
      obtain ⟨rfl, n1, n2, n3⟩ := h91
      rw [e1B, e1L] at n2
      rw [e1B] at n3
      have fr2 := frI_tr fr1 (frI_M n1)
      have e47 : τ91 47 = τ 47 := by rw [n1.1 47 (by decide), g3.1 47 (by decide)]
      by_cases hn : isNm B t1 0 99
      · rw [if_pos hn]
        obtain ⟨y1, y2⟩ := n2 hn
        refine ev_aload_n dX6_sitterItem_94 rfl ?_
        refine ev_getr 0 dX6_sitterItem_95 rfl rfl flX6_7 iwX6 (by decide) rfl ?_
        refine ev_iload_n dX6_sitterItem_98 rfl ?_
        refine ev_iconst dX6_sitterItem_99 ?_
        refine ev_S1 c_X6_spotOf okX6_spotOf dX6_sitterItem_100 mlX6_59 ⟨by decide, by decide⟩ rfl (Nat.le_of_ble_eq_true rfl) ?_
        refine ev_aload_n dX6_sitterItem_103 rfl ?_
        refine ev_geti 14 14 dX6_sitterItem_104 rfl rfl flX6_248 iwX6 (by decide) rfl rfl ?_
        rw [y2]
        refine ev_iast dX6_sitterItem_107 rfl (by omega) ?_
        refine ev_vret dX6_sitterItem_108 rfl ?_
        refine ⟨rfl, (frI_tr fr2 frI_m).1, (frI_tr fr2 frI_m).2, LR_47 y1 (mup_ne (by decide)) (mup_ne (by decide)), ?_⟩
        rw [mup_row, e47]
        have ok := eqP_ok e HP
        exact eqP_trans (eqP_symm (wr_up4 ok (by omega))) (eqP_mup e (by omega))
      · rw [if_neg hn]
        have y := n3 hn
        refine ev_aload_n dX6_sitterItem_94 rfl ?_
        refine ev_getr 0 dX6_sitterItem_95 rfl rfl flX6_7 iwX6 (by decide) rfl ?_
        refine ev_iload_n dX6_sitterItem_98 rfl ?_
        refine ev_iconst dX6_sitterItem_99 ?_
        refine ev_S1 c_X6_spotOf okX6_spotOf dX6_sitterItem_100 mlX6_59 ⟨by decide, by decide⟩ rfl (Nat.le_of_ble_eq_true rfl) ?_
        refine ev_aload_n dX6_sitterItem_103 rfl ?_
        refine ev_geti 14 14 dX6_sitterItem_104 rfl rfl flX6_248 iwX6 (by decide) rfl rfl ?_
        refine ev_iast dX6_sitterItem_107 rfl (by omega) ?_
        refine ev_vret dX6_sitterItem_108 rfl ?_
        refine ⟨rfl, (frI_tr fr2 frI_m).1, (frI_tr fr2 frI_m).2, WR_47 y (mup_ne (by decide)) (mup_ne (by decide))⟩
  unfold itSit
  refine ev_aload_n dX6_sitterItem_0 rfl ?_
  refine ev_aload_n dX6_sitterItem_1 rfl ?_
  refine ev_getr 0 dX6_sitterItem_2 rfl rfl flX6_7 iwX6 (by decide) rfl ?_
  refine ev_iconst dX6_sitterItem_5 ?_
  refine ev_iald dX6_sitterItem_6 rfl (by omega) ?_
  refine ev_bipush dX6_sitterItem_7 (by decide) ?_
  refine ev_icmp_ge (tgt := 16) dX6_sitterItem_9 (by decide) (by omega) (by omega) (fun c9 => ?_) (fun c9 => ?_)
  · rw [if_neg (show ¬ wr (σ 47) 0 3 < 6 by show ¬ σ 47 0 < 6; omega)]
    refine ev_iconst dX6_sitterItem_16 ?_
    refine ev_V0 (c_must_n (Or.inr ⟨h.2.1, rfl⟩) (Or.inl rfl)) okX6_must dX6_sitterItem_17 mlX6_251 rfl rfl ⟨by decide, by decide⟩ rfl (Nat.le_of_ble_eq_true rfl) ?_
    have y := WR_fr h rfl
    have y15 := y.2.1
    refine ev_aload_n dX6_sitterItem_20 rfl ?_
    refine ev_geti 15 15 dX6_sitterItem_21 rfl rfl flX6_237 iwX6 (by decide) rfl rfl ?_
    refine ev_if_eq (tgt := 28) dX6_sitterItem_24 (by decide) (by omega) (fun c24 => ?_) (fun c24 => ?_)
    · exact absurd y15 (by omega)
    · refine ev_vret dX6_sitterItem_27 rfl ?_
      exact ⟨rfl, fun a h1 _ => mup_ne h1, fun i hi => mup_off (by omega), y⟩
  · rw [if_pos (show wr (σ 47) 0 3 < 6 by show σ 47 0 < 6; omega)]
    refine ev_iconst dX6_sitterItem_12 ?_
    refine ev_goto (tgt := 17) dX6_sitterItem_13 (by decide) ?_
    refine ev_callV (c_must_y h) okX6_must dX6_sitterItem_17 mlX6_251 rfl rfl ⟨by decide, by decide⟩ rfl (Nat.le_of_ble_eq_true rfl) (fun r17 τ17 h17 => ?_)
    obtain ⟨rfl, g1, g2, g3⟩ := h17
    rw [hB, hL] at g1
    have f1 := frI_M g3
    have e47 := g3.1 47 (by decide)
    have g15 := g1.2.1
    refine ev_aload_n dX6_sitterItem_20 rfl ?_
    refine ev_geti 15 15 dX6_sitterItem_21 rfl rfl flX6_237 iwX6 (by decide) rfl rfl ?_
    refine ev_if_eq (tgt := 28) dX6_sitterItem_24 (by decide) (by omega) (fun c24 => ?_) (fun c24 => ?_)
    · refine ev_aload_n dX6_sitterItem_28 rfl ?_
      refine ev_iload_n dX6_sitterItem_29 rfl ?_
      refine ev_V1 (c_X6_adds (by rw [e47, hs]; omega)) okX6_adds dX6_sitterItem_30 mlX6_118 rfl rfl ⟨by decide, by decide⟩ rfl (Nat.le_of_ble_eq_true rfl) ?_
      refine ev_istore_n dX6_sitterItem_33 (by decide) rfl ?_
      rw [e47, hs]
      have s6 : σ 47 0 < 6 := by omega
      have eP : eqP (addS (wr (σ 47)) 0 k) (wr (adsR (σ 47) k)) := eqP_adsR H s6
      have HP : okP (addS (wr (σ 47)) 0 k) := okP_addS H hk s6
      have e3 : addS (wr (σ 47)) 0 k 0 3 = s + 1 := by
        show mup _ 0 3 (σ 47 0 + 1) 0 3 = _
        rw [mup_at, hs]
      have es : wr (σ 47) 0 3 = s := hs
      rw [es]
      generalize addS (wr (σ 47)) 0 k = P at *
      generalize hω : srow τ17 47 (adsR (σ 47) k) = ω
      have wa : ∀ a : Nat, a ≠ 47 → ω a = τ17 a := fun a ha => by rw [← hω, srow_ne ha]
      have w47 : ω 47 = adsR (σ 47) k := by rw [← hω, srow_at]
      have fω : frI σ ω := ⟨fun a h1 h2 => by rw [wa a h2]; exact f1.1 a h1 h2, fun i hi => by rw [wa 46 (by decide)]; exact f1.2 i hi⟩
      have lω : LR ω (tkx B L t) := LR_47 g1 (wa 46 (by decide)) (wa 55 (by decide))
      have eω : eqP (wr (ω 47)) P := by rw [w47]; exact eqP_symm eP
      have eB : ω 55 = B := by rw [fω.1 55 (by decide) (by decide)]; exact hB
      have eL : ω 46 11 = L := by rw [fω.2 11 (by omega)]; exact hL
      generalize tkx B L t = t1 at *
      have w6 := LR_wd (j := 6) (by decide) lω
      rw [wcn_all.2.1, eB] at w6
      have wb := wdv_bd (B := B) (t := t1)
      have wl := LR_word (b := b) lω
      rw [eB] at wl
      unfold itTem
      refine ev_aload_n dX6_sitterItem_34 rfl ?_
      refine ev_V1 wl okX6_word dX6_sitterItem_35 mlX6_255 rfl rfl ⟨by decide, by decide⟩ rfl (Nat.le_of_ble_eq_true rfl) ?_
      refine ev_ldc2 (z := 676774066) dX6_sitterItem_38 klX6_271 (by decide) ?_
      refine ev_lc_ne (tgt := 71) dX6_sitterItem_41 dX6_sitterItem_42 (by decide) (by omega) (by omega) (fun c41 => ?_) (fun c41 => ?_)
      · rw [if_neg (fun z => c41 (w6.mpr z))]
        exact fee (by omega) ω t1 P lω HP eω (by omega) fω
      · rw [if_pos (w6.mp c41)]
        refine ev_aload_n dX6_sitterItem_45 rfl ?_
        refine ev_iconst dX6_sitterItem_46 ?_
        refine ev_callV (c_must_y lω) okX6_must dX6_sitterItem_47 mlX6_251 rfl rfl ⟨by decide, by decide⟩ rfl (Nat.le_of_ble_eq_true rfl) (fun r47 τ47 h47 => ?_)
        obtain ⟨rfl, q1, q2, q3⟩ := h47
        rw [eB, eL] at q1
        have fr1 := frI_tr fω (frI_M q3)
        have e1B : τ47 55 = B := by rw [fr1.1 55 (by decide) (by decide)]; exact hB
        have e1L : τ47 46 11 = L := by rw [fr1.2 11 (by omega)]; exact hL
        generalize tkx B L t1 = t2 at q1 ⊢
        refine ev_aload_n dX6_sitterItem_50 rfl ?_
        refine ev_iconst dX6_sitterItem_51 ?_
        refine ev_bipush dX6_sitterItem_52 (by decide) ?_
        refine ev_callV (c_num q1 (by omega) (by omega) (by omega)) okX6_number dX6_sitterItem_54 mlX6_273 rfl rfl ⟨by decide, by decide⟩ rfl (Nat.le_of_ble_eq_true rfl) (fun r54 τ54 h54 => ?_)
        obtain ⟨rfl, n1, n2, n3⟩ := h54
        rw [e1B, e1L] at n2
        rw [e1B] at n3
        have fr2 := frI_tr fr1 (frI_M n1)
        have e47' : τ54 47 = ω 47 := by rw [n1.1 47 (by decide), q3.1 47 (by decide)]
        by_cases hn : isNm B t2 0 30
        · rw [if_pos hn]
          obtain ⟨y1, y2⟩ := n2 hn
          refine ev_aload_n dX6_sitterItem_57 rfl ?_
          refine ev_getr 0 dX6_sitterItem_58 rfl rfl flX6_7 iwX6 (by decide) rfl ?_
          refine ev_iload_n dX6_sitterItem_61 rfl ?_
          refine ev_iconst dX6_sitterItem_62 ?_
          refine ev_S1 c_X6_spotOf okX6_spotOf dX6_sitterItem_63 mlX6_59 ⟨by decide, by decide⟩ rfl (Nat.le_of_ble_eq_true rfl) ?_
          refine ev_aload_n dX6_sitterItem_66 rfl ?_
          refine ev_geti 14 14 dX6_sitterItem_67 rfl rfl flX6_248 iwX6 (by decide) rfl rfl ?_
          rw [y2]
          refine ev_iast dX6_sitterItem_70 rfl (by omega) ?_
          refine fee (by omega) _ _ _ (LR_47 y1 (mup_ne (by decide)) (mup_ne (by decide))) (okP_mup3 HP hn.2) ?_ (by rw [mup_ne (by decide)]; omega) (frI_tr fr2 frI_m)
          rw [mup_row, e47']
          exact eqP_trans (eqP_symm (wr_up3 (eqP_ok eω HP) (by omega))) (eqP_mup eω (by omega))
        · rw [if_neg hn]
          have y := n3 hn
          refine ev_aload_n dX6_sitterItem_57 rfl ?_
          refine ev_getr 0 dX6_sitterItem_58 rfl rfl flX6_7 iwX6 (by decide) rfl ?_
          refine ev_iload_n dX6_sitterItem_61 rfl ?_
          refine ev_iconst dX6_sitterItem_62 ?_
          refine ev_S1 c_X6_spotOf okX6_spotOf dX6_sitterItem_63 mlX6_59 ⟨by decide, by decide⟩ rfl (Nat.le_of_ble_eq_true rfl) ?_
          refine ev_aload_n dX6_sitterItem_66 rfl ?_
          refine ev_geti 14 14 dX6_sitterItem_67 rfl rfl flX6_248 iwX6 (by decide) rfl rfl ?_
          refine ev_iast dX6_sitterItem_70 rfl (by omega) ?_
          exact wrong _ _ (WR_47 y (mup_ne (by decide)) (mup_ne (by decide))) (frI_tr fr2 frI_m)
    · exact absurd g15 (by omega)
