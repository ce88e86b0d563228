/-! the model's wheat item, and an item -/
theorem ev_icmp_gt_any {b : ev_B} {y : ev_Y} {pc : Nat} {ls : List (Nat × ev_V)} {st : List ev_V} {σ : ev_M} {Q : Option ev_V → ev_M → Prop} {x z : Int} {off : Int} {tgt : Nat} (hd : decode y.2.1 pc = .ok (.if_icmp .gt off, 3)) (ht : (pc : Int) + off = (tgt : Int)) (kt : Ev b y tgt ls st σ Q) (kf : Ev b y (pc + 3) ls st σ Q) : Ev b y pc ls (vI z :: vI x :: st) σ Q := by
  intro p l e s m args below meth c H locs cells slots A Z lsA C E hP hS hl
  exact lv_icmp_gt C.1 C.2.1 hd ht (fun q => kt p l e s m args below meth c H locs cells slots A Z lsA C E hP hS hl) (fun q => kf p l e s m args below meth c H locs cells slots A Z lsA C E hP hS hl)
theorem eqP_whR {σ τ : ev_M} {a e v : Int} (H : okP (wr (σ 47))) (h47 : τ 47 = σ 47) (ha : 0 ≤ a) (he : e ≤ 47) : eqP (wr (whS τ 47 4 a (e + 1) v 47)) (whm (wr (σ 47)) a e v) := by
  have h0 := okr0 H
  have u : ∀ i : Int, i < 4 ∨ 52 ≤ i → whS τ 47 4 a (e + 1) v 47 i = σ 47 i := fun i hi => by
    unfold whS; rw [if_neg (by omega), h47]
  refine ⟨u 3 (by omega), u 2 (by omega), u 0 (by omega), u 1 (by omega), fun x hx => ?_, fun x hx => ⟨u _ (by omega), u _ (by omega), u _ (by omega), u _ (by omega)⟩, fun x hx => ⟨u _ (by omega), u _ (by omega), u _ (by omega)⟩⟩
  show whS τ 47 4 a (e + 1) v 47 (4 + x) = whm (wr (σ 47)) a e v 1 x
  unfold whS whm
  by_cases w : a ≤ x ∧ x ≤ e
  · rw [if_pos (by omega), if_pos ⟨rfl, w⟩]
  · rw [if_neg (by omega), if_neg (fun q => w q.2), h47]; rfl
theorem frM_47 {σ τ : ev_M} (h : frM σ τ) : τ 47 = σ 47 := h.1 47 (by decide)
theorem c_X6_wheatItem {b : ev_B} {σ : ev_M} {t : Tk} (h : LR σ t) (H : okP (wr (σ 47))) : Cl b mX6_wheatItem [vR 46] σ (fun r τ => r = none ∧ IR σ (itWht (σ 55) (σ 46 11) (wr (σ 47)) t) τ) := by
  refine ev_enter okX6_wheatItem.1 (Nat.le_of_ble_eq_true rfl) ?_
  generalize hB : σ 55 = B
  generalize hL : σ 46 11 = L
  have w59 : ∀ (τ : ev_M) (x a v e : Int), WR τ x → frI σ τ → Ev b mX6_wheatItem 59 [(0, vR 46), (1, vI a), (2, vI v), (3, vI e)] [] τ (fun r τ => r = none ∧ IR σ (.inl x) τ) := by
    intro τ x a v e hw fr
    have h15 := hw.2.1
    refine ev_iload_n dX6_wheatItem_59 rfl ?_
    refine ev_istore dX6_wheatItem_60 (by decide) rfl ?_
    refine ev_iload dX6_wheatItem_62 rfl ?_
    refine ev_iload_n dX6_wheatItem_64 rfl ?_
    refine ev_icmp_gt_any (tgt := 91) dX6_wheatItem_65 (by decide) ?_ ?_
    · refine ev_vret dX6_wheatItem_91 rfl ?_
      exact ⟨rfl, fr.1, fr.2, hw⟩
    · refine ev_aload_n dX6_wheatItem_68 rfl ?_
      refine ev_geti 15 15 dX6_wheatItem_69 rfl rfl flX6_237 iwX6 (by decide) rfl rfl ?_
      refine ev_if_ne (tgt := 91) dX6_wheatItem_72 (by decide) (by omega) (fun c72 => ?_) (fun c72 => ?_)
      · refine ev_vret dX6_wheatItem_91 rfl ?_
        exact ⟨rfl, fr.1, fr.2, hw⟩
      · exact absurd c72 (by omega)
  have w31 : ∀ (τ : ev_M) (x a v e : Int), WR τ x → frI σ τ → Ev b mX6_wheatItem 31 [(0, vR 46), (1, vI a), (2, vI v), (3, vI e)] [] τ (fun r τ => r = none ∧ IR σ (.inl x) τ) := by
    intro τ x a v e hw fr
    refine ev_aload_n dX6_wheatItem_31 rfl ?_
    refine ev_V1 (WR_word hw) okX6_word dX6_wheatItem_32 mlX6_255 rfl rfl ⟨by decide, by decide⟩ rfl (Nat.le_of_ble_eq_true rfl) ?_
    refine ev_ldc2 (z := 655) dX6_wheatItem_35 klX6_281 (by decide) ?_
    refine ev_lc_ne (tgt := 59) dX6_wheatItem_38 dX6_wheatItem_39 (by decide) (by omega) (by omega) (fun c38 => ?_) (fun c38 => ?_)
    · exact w59 τ x a v e hw fr
    · exact absurd c38 (by omega)
  have loop : ∀ (τ : ev_M) (t : Tk) (a e v : Int), LR τ t → frI σ τ → τ 47 = σ 47 → 0 ≤ a → a ≤ e → e ≤ 47 → ∀ (m : Nat) (c : Int), a ≤ c → c + m = e + 1 → Ev b mX6_wheatItem 62 [(0, vR 46), (1, vI a), (2, vI v), (3, vI e), (4, vI c)] [] (whS τ 47 4 a c v) (fun r ω => r = none ∧ IR σ (.inr (t, whm (wr (σ 47)) a e v)) ω) := by
    intro τ t a e v hl fr h47 h1 h2 h3 m
    have h15 := hl.2.1
    have e15 : ∀ c : Int, whS τ 47 4 a c v 46 15 = 0 := fun c => by rw [whS_ne (by decide)]; exact h15
    induction m with
    | zero =>
      intro c h4 h5
      refine ev_iload dX6_wheatItem_62 rfl ?_
      refine ev_iload_n dX6_wheatItem_64 rfl ?_
      refine ev_icmp_gt (tgt := 91) dX6_wheatItem_65 (by decide) (by omega) (by omega) (fun c65 => ?_) (fun c65 => ?_)
      · refine ev_vret dX6_wheatItem_91 rfl ?_
        have ec : c = e + 1 := by omega
        subst ec
        refine ⟨rfl, fun a' x1 x2 => by rw [whS_ne x2]; exact fr.1 a' x1 x2, fun i hi => by rw [whS_ne (by decide)]; exact fr.2 i hi, LR_47 hl (whS_ne (by decide)) (whS_ne (by decide)), eqP_whR H h47 h1 h3⟩
      · exact absurd c65 (by omega)
    | succ m ih =>
      intro c h4 h5
      have e15' := e15 c
      refine ev_iload dX6_wheatItem_62 rfl ?_
      refine ev_iload_n dX6_wheatItem_64 rfl ?_
      refine ev_icmp_gt (tgt := 91) dX6_wheatItem_65 (by decide) (by omega) (by omega) (fun c65 => ?_) (fun c65 => ?_)
      · exact absurd c65 (by omega)
      · refine ev_aload_n dX6_wheatItem_68 rfl ?_
        refine ev_geti 15 15 dX6_wheatItem_69 rfl rfl flX6_237 iwX6 (by decide) rfl rfl ?_
        refine ev_if_ne (tgt := 91) dX6_wheatItem_72 (by decide) (by omega) (fun c72 => ?_) (fun c72 => ?_)
        · exact absurd e15' c72
        · refine ev_aload_n dX6_wheatItem_75 rfl ?_
          refine ev_getr 0 dX6_wheatItem_76 rfl rfl flX6_7 iwX6 (by decide) rfl ?_
          refine ev_iconst dX6_wheatItem_79 ?_
          refine ev_iload dX6_wheatItem_80 rfl ?_
          refine ev_iadd dX6_wheatItem_82 ?_
          refine ev_iload_n dX6_wheatItem_83 rfl ?_
          refine ev_iast dX6_wheatItem_84 rfl (by omega) ?_
          refine ev_iinc dX6_wheatItem_85 rfl (by decide) rfl ?_
          refine ev_goto (tgt := 62) dX6_wheatItem_88 (by decide) ?_
          have z := whS_s (τ := τ) (x := 47) (d := 4) (v := v) h4
          rw [z]
          exact ih (c + 1) (by omega) (by omega)
  have fin : ∀ (τ : ev_M) (t : Tk) (a e v : Int), LR τ t → frI σ τ → τ 47 = σ 47 → 0 ≤ a → a ≤ e → e ≤ 47 → Ev b mX6_wheatItem 59 [(0, vR 46), (1, vI a), (2, vI v), (3, vI e)] [] τ (fun r ω => r = none ∧ IR σ (.inr (t, whm (wr (σ 47)) a e v)) ω) := by
    intro τ t a e v hl fr h47 h1 h2 h3
    have l := loop τ t a e v hl fr h47 h1 h2 h3 (e + 1 - a).toNat a (by omega) (by omega)
    rw [whS_0] at l
    refine ev_iload_n dX6_wheatItem_59 rfl ?_
    refine ev_istore dX6_wheatItem_60 (by decide) rfl ?_
    exact l
  unfold itWht itWh1 itWh2
  refine ev_aload_n dX6_wheatItem_0 rfl ?_
  refine ev_iconst dX6_wheatItem_1 ?_
  refine ev_callV (c_must_y h) okX6_must dX6_wheatItem_2 mlX6_251 rfl rfl ⟨by decide, by decide⟩ rfl (Nat.le_of_ble_eq_true rfl) (fun r2 τ2 h2 => ?_)
  obtain ⟨rfl, g1, g2, g3⟩ := h2
  rw [hB, hL] at g1
  have f1 := frI_M g3
  have eB : τ2 55 = B := by rw [f1.1 55 (by decide) (by decide)]; exact hB
  have eL : τ2 46 11 = L := by rw [f1.2 11 (by omega)]; exact hL
  generalize tkx B L t = t1 at g1 ⊢
  refine ev_aload_n dX6_wheatItem_5 rfl ?_
  refine ev_iconst dX6_wheatItem_6 ?_
  refine ev_bipush dX6_wheatItem_7 (by decide) ?_
  refine ev_callV (c_num g1 (by omega) (by omega) (by omega)) okX6_number dX6_wheatItem_9 mlX6_273 rfl rfl ⟨by decide, by decide⟩ rfl (Nat.le_of_ble_eq_true rfl) (fun r9 τ9 h9 => ?_)
  obtain ⟨rfl, n1, n2, n3⟩ := h9
  rw [eB, eL] at n2
  rw [eB] at n3
  have f2 := frI_tr f1 (frI_M n1)
  by_cases hn : isNm B t1 0 47
  · rw [if_pos hn]
    obtain ⟨y1, y2⟩ := n2 hn
    have hn2 := hn.2
    generalize hv : nmt B t1 = o at *
    generalize tkx B L t1 = t2 at *
    have e2B : τ9 55 = B := by rw [f2.1 55 (by decide) (by decide)]; exact hB
    have e2L : τ9 46 11 = L := by rw [f2.2 11 (by omega)]; exact hL
    refine ev_aload_n dX6_wheatItem_12 rfl ?_
    refine ev_geti 14 14 dX6_wheatItem_13 rfl rfl flX6_248 iwX6 (by decide) rfl rfl ?_
    rw [y2]
    refine ev_istore_n dX6_wheatItem_16 (by decide) rfl ?_
    refine ev_aload_n dX6_wheatItem_17 rfl ?_
    refine ev_iconst dX6_wheatItem_18 ?_
    refine ev_bipush dX6_wheatItem_19 (by decide) ?_
    refine ev_callV (c_num y1 (by omega) (by omega) (by omega)) okX6_number dX6_wheatItem_21 mlX6_273 rfl rfl ⟨by decide, by decide⟩ rfl (Nat.le_of_ble_eq_true rfl) (fun r21 τ21 h21 => ?_)
    obtain ⟨rfl, m1, m2, m3⟩ := h21
    rw [e2B, e2L] at m2
    rw [e2B] at m3
    have f3 := frI_tr f2 (frI_M m1)
    by_cases hm : isNm B t2 0 99
    · rw [if_pos hm]
      obtain ⟨z1, z2⟩ := m2 hm
      generalize hv2 : nmt B t2 = v at *
      generalize tkx B L t2 = t3 at *
      have e3B : τ21 55 = B := by rw [f3.1 55 (by decide) (by decide)]; exact hB
      have e3L : τ21 46 11 = L := by rw [f3.2 11 (by omega)]; exact hL
      have e347 : τ21 47 = σ 47 := by rw [frM_47 m1, frM_47 n1, frM_47 g3]
      have w11 := LR_wd (j := 11) (by decide) z1
      rw [wcn_all.2.2.2.2.2.2.1, e3B] at w11
      have wb := wdv_bd (B := B) (t := t3)
      have wl := LR_word (b := b) z1
      rw [e3B] at wl
      refine ev_aload_n dX6_wheatItem_24 rfl ?_
      refine ev_geti 14 14 dX6_wheatItem_25 rfl rfl flX6_248 iwX6 (by decide) rfl rfl ?_
      rw [z2]
      refine ev_istore_n dX6_wheatItem_28 (by decide) rfl ?_
      refine ev_iload_n dX6_wheatItem_29 rfl ?_
      refine ev_istore_n dX6_wheatItem_30 (by decide) rfl ?_
      refine ev_aload_n dX6_wheatItem_31 rfl ?_
      refine ev_V1 wl okX6_word dX6_wheatItem_32 mlX6_255 rfl rfl ⟨by decide, by decide⟩ rfl (Nat.le_of_ble_eq_true rfl) ?_
      refine ev_ldc2 (z := 655) dX6_wheatItem_35 klX6_281 (by decide) ?_
      refine ev_lc_ne (tgt := 59) dX6_wheatItem_38 dX6_wheatItem_39 (by decide) (by omega) (by omega) (fun c38 => ?_) (fun c38 => ?_)
      · rw [if_neg (fun z => c38 (w11.mpr z))]
        exact fin τ21 t3 o o v z1 f3 e347 (by omega) (by omega) (by omega)
      · rw [if_pos (w11.mp c38)]
        refine ev_aload_n dX6_wheatItem_42 rfl ?_
        refine ev_iconst dX6_wheatItem_43 ?_
        refine ev_callV (c_must_y z1) okX6_must dX6_wheatItem_44 mlX6_251 rfl rfl ⟨by decide, by decide⟩ rfl (Nat.le_of_ble_eq_true rfl) (fun r44 τ44 h44 => ?_)
        obtain ⟨rfl, q1, q2, q3⟩ := h44
        rw [e3B, e3L] at q1
        have f4 := frI_tr f3 (frI_M q3)
        have e4B : τ44 55 = B := by rw [f4.1 55 (by decide) (by decide)]; exact hB
        have e4L : τ44 46 11 = L := by rw [f4.2 11 (by omega)]; exact hL
        generalize tkx B L t3 = t4 at q1 ⊢
        refine ev_aload_n dX6_wheatItem_47 rfl ?_
        refine ev_iload_n dX6_wheatItem_48 rfl ?_
        refine ev_bipush dX6_wheatItem_49 (by decide) ?_
        refine ev_callV (c_num q1 (by omega) (by omega) (by omega)) okX6_number dX6_wheatItem_51 mlX6_273 rfl rfl ⟨by decide, by decide⟩ rfl (Nat.le_of_ble_eq_true rfl) (fun r51 τ51 h51 => ?_)
        obtain ⟨rfl, k1, k2, k3⟩ := h51
        rw [e4B, e4L] at k2
        rw [e4B] at k3
        have f5 := frI_tr f4 (frI_M k1)
        by_cases hk : isNm B t4 o 47
        · rw [if_pos hk]
          obtain ⟨x1, x2⟩ := k2 hk
          have hk2 := hk.2
          refine ev_aload_n dX6_wheatItem_54 rfl ?_
          refine ev_geti 14 14 dX6_wheatItem_55 rfl rfl flX6_248 iwX6 (by decide) rfl rfl ?_
          rw [x2]
          refine ev_istore_n dX6_wheatItem_58 (by decide) rfl ?_
          exact fin τ51 _ o _ v x1 f5 (by rw [frM_47 k1, frM_47 q3]; exact e347) (by omega) (by omega) (by omega)
        · rw [if_neg hk]
          refine ev_aload_n dX6_wheatItem_54 rfl ?_
          refine ev_geti 14 14 dX6_wheatItem_55 rfl rfl flX6_248 iwX6 (by decide) rfl rfl ?_
          refine ev_istore_n dX6_wheatItem_58 (by decide) rfl ?_
          exact w59 τ51 _ _ _ _ (k3 hk) f5
    · rw [if_neg hm]
      refine ev_aload_n dX6_wheatItem_24 rfl ?_
      refine ev_geti 14 14 dX6_wheatItem_25 rfl rfl flX6_248 iwX6 (by decide) rfl rfl ?_
      refine ev_istore_n dX6_wheatItem_28 (by decide) rfl ?_
      refine ev_iload_n dX6_wheatItem_29 rfl ?_
      refine ev_istore_n dX6_wheatItem_30 (by decide) rfl ?_
      exact w31 τ21 _ _ _ _ (m3 hm) f3
  · rw [if_neg hn]
    have y := n3 hn
    refine ev_aload_n dX6_wheatItem_12 rfl ?_
    refine ev_geti 14 14 dX6_wheatItem_13 rfl rfl flX6_248 iwX6 (by decide) rfl rfl ?_
    refine ev_istore_n dX6_wheatItem_16 (by decide) rfl ?_
    refine ev_aload_n dX6_wheatItem_17 rfl ?_
    refine ev_iconst dX6_wheatItem_18 ?_
    refine ev_bipush dX6_wheatItem_19 (by decide) ?_
    refine ev_V0 (c_num_w y) okX6_number dX6_wheatItem_21 mlX6_273 rfl rfl ⟨by decide, by decide⟩ rfl (Nat.le_of_ble_eq_true rfl) ?_
    refine ev_aload_n dX6_wheatItem_24 rfl ?_
    refine ev_geti 14 14 dX6_wheatItem_25 rfl rfl flX6_248 iwX6 (by decide) rfl rfl ?_
    refine ev_istore_n dX6_wheatItem_28 (by decide) rfl ?_
    refine ev_iload_n dX6_wheatItem_29 rfl ?_
    refine ev_istore_n dX6_wheatItem_30 (by decide) rfl ?_
    exact w31 τ9 _ _ _ _ y f2
theorem c_X6_item {b : ev_B} {σ : ev_M} {t : Tk} (h : LR σ t) (H : okP (wr (σ 47))) : Cl b mX6_item [vR 46] σ (fun r τ => r = none ∧ IR σ (itm (σ 55) (σ 46 11) (wr (σ 47)) t) τ) := by
  refine ev_enter okX6_item.1 (Nat.le_of_ble_eq_true rfl) ?_
  have kb : -1 ≤ kdN (σ 55) t ∧ kdN (σ 55) t < 6 := kdF_bd (B := σ 55) (t := t) 6 0
  have w8 := LR_wd (j := 8) (by decide) h
  have w10 := LR_wd (j := 10) (by decide) h
  have w12 := LR_wd (j := 12) (by decide) h
  have wb := wdv_bd (B := σ 55) (t := t)
  have wl := LR_word (b := b) h
  rw [wcn_all.2.2.2.1] at w8
  rw [wcn_all.2.2.2.2.2.1] at w10
  rw [wcn_all.2.2.2.2.2.2.2] at w12
  unfold itm
  refine ev_aload_n dX6_item_0 rfl ?_
  refine ev_V1 (c_X6_kindHere h) okX6_kindHere dX6_item_1 mlX6_283 rfl rfl ⟨by decide, by decide⟩ rfl (Nat.le_of_ble_eq_true rfl) ?_
  refine ev_istore_n dX6_item_4 (by decide) rfl ?_
  refine ev_aload_n dX6_item_5 rfl ?_
  refine ev_V1 wl okX6_word dX6_item_6 mlX6_255 rfl rfl ⟨by decide, by decide⟩ rfl (Nat.le_of_ble_eq_true rfl) ?_
  refine ev_lstore_n dX6_item_9 (by decide) rfl ?_
  refine ev_iload_n dX6_item_10 rfl ?_
  refine ev_if_lt (tgt := 22) dX6_item_11 (by decide) (by omega) (fun c11 => ?_) (fun c11 => ?_)
  · rw [if_neg (by omega)]
    refine ev_lload_n dX6_item_22 rfl ?_
    refine ev_ldc2 (z := 422355342963) dX6_item_23 klX6_290 (by decide) ?_
    refine ev_lc_ne (tgt := 37) dX6_item_26 dX6_item_27 (by decide) (by omega) (by omega) (fun c26 => ?_) (fun c26 => ?_)
    · rw [if_neg (fun z => c26 (w8.mpr z))]
      refine ev_lload_n dX6_item_37 rfl ?_
      refine ev_ldc2 (z := 24384564) dX6_item_38 klX6_295 (by decide) ?_
      refine ev_lc_ne (tgt := 52) dX6_item_41 dX6_item_42 (by decide) (by omega) (by omega) (fun c41 => ?_) (fun c41 => ?_)
      · rw [if_neg (fun z => c41 (w10.mpr z))]
        have h0 := okr0 H
        have tail : ∀ (τ : ev_M) (x : Int), WR τ x → frI σ τ → Ev b mX6_item 69 [(0, vR 46)] [] τ (fun r τ => r = none ∧ IR σ (.inl x) τ) := by
          intro τ x hw fr
          have h15 := hw.2.1
          refine ev_aload_n dX6_item_69 rfl ?_
          refine ev_iconst dX6_item_70 ?_
          refine ev_bipush dX6_item_71 (by decide) ?_
          refine ev_V0 (c_num_w hw) okX6_number dX6_item_73 mlX6_273 rfl rfl ⟨by decide, by decide⟩ rfl (Nat.le_of_ble_eq_true rfl) ?_
          refine ev_aload_n dX6_item_76 rfl ?_
          refine ev_getr 0 dX6_item_77 rfl rfl flX6_7 iwX6 (by decide) rfl ?_
          refine ev_iconst dX6_item_80 ?_
          refine ev_aload_n dX6_item_81 rfl ?_
          refine ev_geti 15 15 dX6_item_82 rfl rfl flX6_237 iwX6 (by decide) rfl rfl ?_
          refine ev_if_eq (tgt := 97) dX6_item_85 (by decide) (by omega) (fun c85 => ?_) (fun c85 => ?_)
          · exact absurd c85 (by omega)
          · refine ev_aload_n dX6_item_88 rfl ?_
            refine ev_getr 0 dX6_item_89 rfl rfl flX6_7 iwX6 (by decide) rfl ?_
            refine ev_iconst dX6_item_92 ?_
            refine ev_iald dX6_item_93 rfl (by omega) ?_
            refine ev_goto (tgt := 101) dX6_item_94 (by decide) ?_
            refine ev_iast dX6_item_101 rfl (by omega) ?_
            refine ev_vret dX6_item_102 rfl ?_
            refine ⟨rfl, (frI_tr fr frI_m).1, (frI_tr fr frI_m).2, WR_47 hw (mup_ne (by decide)) (mup_ne (by decide))⟩
        refine ev_aload_n dX6_item_52 rfl ?_
        refine ev_lload_n dX6_item_53 rfl ?_
        refine ev_ldc2 (z := 3751667) dX6_item_54 klX6_300 (by decide) ?_
        refine ev_lc_ne (tgt := 65) dX6_item_57 dX6_item_58 (by decide) (by omega) (by omega) (fun c57 => ?_) (fun c57 => ?_)
        · rw [if_neg (fun z => c57 (w12.mpr z))]
          refine ev_iconst dX6_item_65 ?_
          refine ev_V0 (c_must_n (Or.inr ⟨h.2.1, rfl⟩) (Or.inl rfl)) okX6_must dX6_item_66 mlX6_251 rfl rfl ⟨by decide, by decide⟩ rfl (Nat.le_of_ble_eq_true rfl) ?_
          refine Ev.lsub (ls' := [(0, vR 46)]) (by simp; rfl) ?_
          exact tail _ _ (WR_fr h rfl) (frI_M (frM_m (by omega)))
        · rw [if_pos (w12.mp c57)]
          refine ev_iconst dX6_item_61 ?_
          refine ev_goto (tgt := 66) dX6_item_62 (by decide) ?_
          refine ev_callV (c_must_y h) okX6_must dX6_item_66 mlX6_251 rfl rfl ⟨by decide, by decide⟩ rfl (Nat.le_of_ble_eq_true rfl) (fun r66 τ66 h66 => ?_)
          obtain ⟨rfl, g1, g2, g3⟩ := h66
          unfold itCrw
          have f1 := frI_M g3
          have eB : τ66 55 = σ 55 := f1.1 55 (by decide) (by decide)
          have eL : τ66 46 11 = σ 46 11 := f1.2 11 (by omega)
          generalize tkx (σ 55) (σ 46 11) t = t1 at g1 ⊢
          refine ev_aload_n dX6_item_69 rfl ?_
          refine ev_iconst dX6_item_70 ?_
          refine ev_bipush dX6_item_71 (by decide) ?_
          refine ev_callV (c_num g1 (by omega) (by omega) (by omega)) okX6_number dX6_item_73 mlX6_273 rfl rfl ⟨by decide, by decide⟩ rfl (Nat.le_of_ble_eq_true rfl) (fun r73 τ73 h73 => ?_)
          obtain ⟨rfl, n1, n2, n3⟩ := h73
          rw [eB, eL] at n2
          rw [eB] at n3
          have f2 := frI_tr f1 (frI_M n1)
          by_cases hn : isNm (σ 55) t1 0 20
          · rw [if_pos hn]
            obtain ⟨y1, y2⟩ := n2 hn
            have y15 := y1.2.1
            refine ev_aload_n dX6_item_76 rfl ?_
            refine ev_getr 0 dX6_item_77 rfl rfl flX6_7 iwX6 (by decide) rfl ?_
            refine ev_iconst dX6_item_80 ?_
            refine ev_aload_n dX6_item_81 rfl ?_
            refine ev_geti 15 15 dX6_item_82 rfl rfl flX6_237 iwX6 (by decide) rfl rfl ?_
            refine ev_if_eq (tgt := 97) dX6_item_85 (by decide) (by omega) (fun c85 => ?_) (fun c85 => ?_)
            · refine ev_aload_n dX6_item_97 rfl ?_
              refine ev_geti 14 14 dX6_item_98 rfl rfl flX6_248 iwX6 (by decide) rfl rfl ?_
              rw [y2]
              refine ev_iast dX6_item_101 rfl (by omega) ?_
              refine ev_vret dX6_item_102 rfl ?_
              refine ⟨rfl, (frI_tr f2 frI_m).1, (frI_tr f2 frI_m).2, LR_47 y1 (mup_ne (by decide)) (mup_ne (by decide)), ?_⟩
              rw [mup_row, frM_47 n1, frM_47 g3]
              have u : ∀ i : Int, i ≠ 3 → upw (σ 47) 3 (nmt (σ 55) t1) i = σ 47 i := fun i hi => upw_ne hi
              refine ⟨upw_at, u 2 (by decide), u 0 (by decide), u 1 (by decide), fun x hx => u _ (by omega), fun x hx => ⟨u _ (by omega), u _ (by omega), u _ (by omega), u _ (by omega)⟩, fun x hx => ⟨u _ (by omega), u _ (by omega), u _ (by omega)⟩⟩
            · exact absurd y15 c85
          · rw [if_neg hn]
            have y := n3 hn
            have y15 := y.2.1
            refine ev_aload_n dX6_item_76 rfl ?_
            refine ev_getr 0 dX6_item_77 rfl rfl flX6_7 iwX6 (by decide) rfl ?_
            refine ev_iconst dX6_item_80 ?_
            refine ev_aload_n dX6_item_81 rfl ?_
            refine ev_geti 15 15 dX6_item_82 rfl rfl flX6_237 iwX6 (by decide) rfl rfl ?_
            refine ev_if_eq (tgt := 97) dX6_item_85 (by decide) (by omega) (fun c85 => ?_) (fun c85 => ?_)
            · exact absurd c85 (by omega)
            · refine ev_aload_n dX6_item_88 rfl ?_
              refine ev_getr 0 dX6_item_89 rfl rfl flX6_7 iwX6 (by decide) rfl ?_
              refine ev_iconst dX6_item_92 ?_
              refine ev_iald dX6_item_93 rfl (by omega) ?_
              refine ev_goto (tgt := 101) dX6_item_94 (by decide) ?_
              refine ev_iast dX6_item_101 rfl (by omega) ?_
              refine ev_vret dX6_item_102 rfl ?_
              exact ⟨rfl, (frI_tr f2 frI_m).1, (frI_tr f2 frI_m).2, WR_47 y (mup_ne (by decide)) (mup_ne (by decide))⟩
      · rw [if_pos (w10.mp c41)]
        refine ev_aload_n dX6_item_45 rfl ?_
        refine ev_callV (c_X6_wheatItem h H) okX6_wheatItem dX6_item_46 mlX6_297 rfl rfl ⟨by decide, by decide⟩ rfl (Nat.le_of_ble_eq_true rfl) (fun r46 τ46 h46 => ?_)
        obtain ⟨rfl, g⟩ := h46
        refine ev_goto (tgt := 102) dX6_item_49 (by decide) ?_
        refine ev_vret dX6_item_102 rfl ?_
        exact ⟨rfl, g⟩
    · rw [if_pos (w8.mp c26)]
      refine ev_aload_n dX6_item_30 rfl ?_
      refine ev_callV (c_X6_likenessItem h H) okX6_likenessItem dX6_item_31 mlX6_292 rfl rfl ⟨by decide, by decide⟩ rfl (Nat.le_of_ble_eq_true rfl) (fun r31 τ31 h31 => ?_)
      obtain ⟨rfl, g⟩ := h31
      refine ev_goto (tgt := 102) dX6_item_34 (by decide) ?_
      refine ev_vret dX6_item_102 rfl ?_
      exact ⟨rfl, g⟩
  · rw [if_pos (by omega)]
    refine ev_aload_n dX6_item_14 rfl ?_
    refine ev_iload_n dX6_item_15 rfl ?_
    refine ev_callV (c_X6_sitterItem h H (by omega)) okX6_sitterItem dX6_item_16 mlX6_286 rfl rfl ⟨by decide, by decide⟩ rfl (Nat.le_of_ble_eq_true rfl) (fun r16 τ16 h16 => ?_)
    obtain ⟨rfl, g⟩ := h16
    refine ev_goto (tgt := 102) dX6_item_19 (by decide) ?_
    refine ev_vret dX6_item_102 rfl ?_
    exact ⟨rfl, g⟩
