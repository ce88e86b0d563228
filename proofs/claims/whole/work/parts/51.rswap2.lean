/-! the model's swap -/
theorem c_X6_swapped {b : ev_B} {σ : ev_M} {l o : Int} {n : Nat} (H : okP (wr (σ 47))) (ha : σ 46 6 = 0) (hn : n < 1000) (hl : 0 ≤ l ∧ l < σ 47 1) (ho : 0 ≤ o ∧ o < σ 47 1) (hlo : l ≠ o) : Cl b mX6_swapped [vR 46, vI l, vI o, vI n] σ (fun r τ => r = some (vI (eatN (swP (wr (σ 47)) l o) allp n)) ∧ eqS (τ 47) (σ 47) ∧ frD σ τ) := by
  refine ev_enter okX6_swapped.1 (Nat.le_of_ble_eq_true rfl) ?_
  have h0 := okr0 H
  have q1 := okrl H hl
  have q2 := okrl H ho
  generalize hA : σ 47 (76 + 3 * l + 0) = A at q1
  generalize hB : σ 47 (76 + 3 * o + 0) = B at q2
  have e1 := wr_up6 (v := B) H (c := l) (by omega)
  have H1 := okP_mup6 (l := l) (v := B) H (by omega)
  have H1' := eqP_ok (eqP_symm e1) H1
  have e2 := wr_up6 (v := A) H1' (c := o) (by omega)
  have H2 := okP_mup6 (l := o) (v := A) H1 (by omega)
  have e3 : eqP (swP (wr (σ 47)) l o) (wr (upw (upw (σ 47) (76 + 3 * l + 0) B) (76 + 3 * o + 0) A)) := by
    have z : swP (wr (σ 47)) l o = mup (mup (wr (σ 47)) 6 l B) 6 o A := by rw [← hA, ← hB]; rfl
    rw [z]
    exact eqP_trans (eqP_mup e1 (by omega)) e2
  have H3 : okP (swP (wr (σ 47)) l o) := by
    have z : swP (wr (σ 47)) l o = mup (mup (wr (σ 47)) 6 l B) 6 o A := by rw [← hA, ← hB]; rfl
    rw [z]; exact H2
  refine ev_aload_n dX6_swapped_0 rfl ?_
  refine ev_iload_n dX6_swapped_1 rfl ?_
  refine ev_iconst dX6_swapped_2 ?_
  refine ev_V1 (c_X6_likes (by omega)) okX6_likes dX6_swapped_3 mlX6_70 rfl rfl ⟨by decide, by decide⟩ rfl (Nat.le_of_ble_eq_true rfl) ?_
  rw [hA]
  refine ev_istore dX6_swapped_6 (by decide) rfl ?_
  refine ev_aload_n dX6_swapped_8 rfl ?_
  refine ev_iload_n dX6_swapped_9 rfl ?_
  refine ev_iconst dX6_swapped_10 ?_
  refine ev_V1 (c_X6_likes (by omega)) okX6_likes dX6_swapped_11 mlX6_70 rfl rfl ⟨by decide, by decide⟩ rfl (Nat.le_of_ble_eq_true rfl) ?_
  rw [hB]
  refine ev_istore dX6_swapped_14 (by decide) rfl ?_
  refine ev_aload_n dX6_swapped_16 rfl ?_
  refine ev_getr 0 dX6_swapped_17 rfl rfl flX6_7 iwX6 (by decide) rfl ?_
  refine ev_iload_n dX6_swapped_20 rfl ?_
  refine ev_iconst dX6_swapped_21 ?_
  refine ev_S1 c_X6_placeOf okX6_placeOf dX6_swapped_22 mlX6_63 ⟨by decide, by decide⟩ rfl (Nat.le_of_ble_eq_true rfl) ?_
  refine ev_iload dX6_swapped_25 rfl ?_
  refine ev_iast dX6_swapped_27 rfl (by omega) ?_
  refine ev_aload_n dX6_swapped_28 rfl ?_
  refine ev_getr 0 dX6_swapped_29 rfl rfl flX6_7 iwX6 (by decide) rfl ?_
  refine ev_iload_n dX6_swapped_32 rfl ?_
  refine ev_iconst dX6_swapped_33 ?_
  refine ev_S1 c_X6_placeOf okX6_placeOf dX6_swapped_34 mlX6_63 ⟨by decide, by decide⟩ rfl (Nat.le_of_ble_eq_true rfl) ?_
  refine ev_iload dX6_swapped_37 rfl ?_
  refine ev_iast dX6_swapped_39 rfl (by omega) ?_
  generalize hω : mup (mup σ 47 (76 + 3 * l + 0) B) 47 (76 + 3 * o + 0) A = ω
  have w47 : ω 47 = upw (upw (σ 47) (76 + 3 * l + 0) B) (76 + 3 * o + 0) A := by rw [← hω, mup_row, mup_row]
  have wa : ∀ a : Nat, a ≠ 47 → ω a = σ a := fun a h => by rw [← hω, mup_ne h, mup_ne h]
  have w46 : ω 46 6 = 0 := by rw [wa 46 (by decide)]; exact ha
  refine ev_aload_n dX6_swapped_40 rfl ?_
  refine ev_iload_n dX6_swapped_41 rfl ?_
  refine ev_callV (c_X6_eatenOn (by rw [w47]; exact eqP_ok (eqP_symm e3) H3) (by omega) hn) okX6_eatenOn dX6_swapped_42 mlX6_190 rfl rfl ⟨by decide, by decide⟩ rfl (Nat.le_of_ble_eq_true rfl) (fun r42 τ42 h42 => ?_)
  obtain ⟨rfl, g1, g2⟩ := h42
  rw [w46, prA_0, w47, eqP_eatP (eqP_symm e3) H3]
  refine ev_istore dX6_swapped_45 (by decide) rfl ?_
  refine ev_aload_n dX6_swapped_47 rfl ?_
  refine ev_getr 0 dX6_swapped_48 rfl rfl flX6_7 iwX6 (by decide) rfl ?_
  refine ev_iload_n dX6_swapped_51 rfl ?_
  refine ev_iconst dX6_swapped_52 ?_
  refine ev_S1 c_X6_placeOf okX6_placeOf dX6_swapped_53 mlX6_63 ⟨by decide, by decide⟩ rfl (Nat.le_of_ble_eq_true rfl) ?_
  refine ev_iload dX6_swapped_56 rfl ?_
  refine ev_iast dX6_swapped_58 rfl (by omega) ?_
  refine ev_aload_n dX6_swapped_59 rfl ?_
  refine ev_getr 0 dX6_swapped_60 rfl rfl flX6_7 iwX6 (by decide) rfl ?_
  refine ev_iload_n dX6_swapped_63 rfl ?_
  refine ev_iconst dX6_swapped_64 ?_
  refine ev_S1 c_X6_placeOf okX6_placeOf dX6_swapped_65 mlX6_63 ⟨by decide, by decide⟩ rfl (Nat.le_of_ble_eq_true rfl) ?_
  refine ev_iload dX6_swapped_68 rfl ?_
  refine ev_iast dX6_swapped_70 rfl (by omega) ?_
  refine ev_iload dX6_swapped_71 rfl ?_
  refine ev_iret dX6_swapped_73 rfl rfl ?_
  refine ⟨rfl, fun i hi => ?_, fun a x1 x2 x3 => by rw [mup_ne x1, mup_ne x1, g2 a x1 x2 x3]; exact wa a x1⟩
  rw [mup_row, mup_row]
  unfold upw
  by_cases y1 : i = 76 + 3 * o + 0
  · rw [if_pos y1, y1, hB]
  · rw [if_neg y1]
    by_cases y2 : i = 76 + 3 * l + 0
    · rw [if_pos y2, y2, hA]
    · rw [if_neg y2, g1 i hi, w47, upw_ne y1, upw_ne y2]
theorem eqP_swP {P P' : ev_M} {l o : Int} (h : eqP P' P) (hl : 0 ≤ l ∧ l < P 0 8) (ho : 0 ≤ o ∧ o < P 0 8) : eqP (swP P' l o) (swP P l o) := by
  unfold swP
  rw [(h.2.2.2.2.2.2 l hl).1, (h.2.2.2.2.2.2 o ho).1]
  exact eqP_mup (eqP_mup h (by omega)) (by omega)
theorem c_X6_swap {b : ev_B} {σ : ev_M} {n : Int} (H : okP (wr (σ 47))) (ha : σ 46 6 = 0) (h1 : (-2147483648 ≤ n ∧ n < 2147483648)) : Cl b mX6_swap [vR 46, vI n] σ (RP σ (sc_swap (prj σ) n)) := by
  refine ev_enter okX6_swap.1 (Nat.le_of_ble_eq_true rfl) ?_
  have h0 := okr0 H
  unfold sc_swap
  rw [prj_1]
  refine ev_iload_n dX6_swap_0 rfl ?_
  refine ev_Sbne (tgt := 14) (c_X6_isSoon (by omega)) okX6_isSoon dX6_swap_1 mlX6_193 ⟨by decide, by decide⟩ rfl (Nat.le_of_ble_eq_true rfl) dX6_swap_4 (by decide) (fun c1 => ?_) (fun c1 => ?_)
  · rw [if_pos (by omega)]
    obtain ⟨m, hm, hm2⟩ := nn_ex (x := n) (by omega)
    subst hm
    rw [hm2]
    obtain ⟨nl, hnl, hnl2⟩ := nn_ex h0.2.2.2.1
    have p18 : (prj σ 1 8).toNat = nl := hnl2
    rw [p18]
    have eb := eatN_bd (pr := allp) H m
    generalize hE : eatN (wr (σ 47)) allp m = E at eb ⊢
    generalize hee : (fun l o => eatN (swP (wr (σ 47)) l o) allp m) = e
    have hok : ∀ l o : Int, 0 ≤ l ∧ l < nl → 0 ≤ o ∧ o < nl → okP (swP (wr (σ 47)) l o) := by
      intro l o hl ho
      have q1 := okrl H (l := l) (by omega)
      have q2 := okrl H (l := o) (by omega)
      exact okP_mup6 (okP_mup6 H q2.1) q1.1
    have heb : ∀ l o : Int, 0 ≤ l ∧ l < nl → 0 ≤ o ∧ o < nl → 0 ≤ e l o ∧ e l o ≤ 800 := by
      intro l o hl ho
      have := eatN_bd (pr := allp) (hok l o hl ho) m
      rw [← hee]
      simp only []
      omega
    generalize hR : RP σ (if (swo e E nl nl).1 < 0 then (-1000000004, fnd (prj σ) 3) else ((swo e E nl nl).1, prj σ)) = R
    have inner : ∀ (i : Nat) (st : Int × Int), i < nl → (∀ j : Nat, j ≤ nl - 1 - i → 0 ≤ (swi e i st j).2 ∧ (swi e i st j).2 ≤ 1000000) → (∀ (τ : ev_M) (ls : List (Nat × ev_V)), ev_lk ls 0 = some (vR 46) → ev_lk ls 1 = some (vI m) → ev_lk ls 2 = some (vI (swi e i st (nl - 1 - i)).1) → ev_lk ls 3 = some (vI (swi e i st (nl - 1 - i)).2) → ev_lk ls 4 = some (vI i) → eqS (τ 47) (σ 47) → frD σ τ → Ev b mX6_swap 102 ls [] τ R) → ∀ (k j : Nat) (τ : ev_M) (ls : List (Nat × ev_V)), ev_lk ls 0 = some (vR 46) → ev_lk ls 1 = some (vI m) → ev_lk ls 2 = some (vI (swi e i st j).1) → ev_lk ls 3 = some (vI (swi e i st j).2) → ev_lk ls 4 = some (vI i) → ev_lk ls 5 = some (vI ((i : Int) + 1 + j)) → i + 1 + j + k = nl → eqS (τ 47) (σ 47) → frD σ τ → Ev b mX6_swap 42 ls [] τ R := by
      intro i st hi hbd K k
      induction k with
      | zero =>
        intro j τ ls l0 l1 l2 l3 l4 l5 hk es fr
        refine Ev.lsub (ls' := [(0, vR 46), (1, vI m), (2, vI (swi e i st j).1), (3, vI (swi e i st j).2), (4, vI i), (5, vI ((i : Int) + 1 + j))]) (by simp [l0, l1, l2, l3, l4, l5]) ?_
        have e8 : τ 47 1 = nl := by rw [es 1 (by omega)]; exact hnl
        have ej : j = nl - 1 - i := by omega
        subst ej
        refine ev_iload dX6_swap_42 rfl ?_
        refine ev_aload_n dX6_swap_44 rfl ?_
        refine ev_getr 0 dX6_swap_45 rfl rfl flX6_7 iwX6 (by decide) rfl ?_
        refine ev_iconst dX6_swap_48 ?_
        refine ev_iald dX6_swap_49 rfl (by omega) ?_
        refine ev_icmp_ge (tgt := 102) dX6_swap_50 (by decide) (by omega) (by omega) (fun c50 => ?_) (fun c50 => ?_)
        · exact K τ _ rfl rfl rfl rfl rfl es fr
        · exact absurd c50 (by omega)
      | succ k ih =>
        intro j τ ls l0 l1 l2 l3 l4 l5 hk es fr
        refine Ev.lsub (ls' := [(0, vR 46), (1, vI m), (2, vI (swi e i st j).1), (3, vI (swi e i st j).2), (4, vI i), (5, vI ((i : Int) + 1 + j))]) (by simp [l0, l1, l2, l3, l4, l5]) ?_
        have e8 : τ 47 1 = nl := by rw [es 1 (by omega)]; exact hnl
        have a0 : τ 46 6 = 0 := by rw [fr 46 (by omega) (by omega) (by omega)]; exact ha
        have bd := hbd j (by omega)
        have Ho := hok i ((i : Int) + 1 + j) (by omega) (by omega)
        have ebb := heb i ((i : Int) + 1 + j) (by omega) (by omega)
        have eN : eatN (swP (wr (τ 47)) i ((i : Int) + 1 + j)) allp m = e i ((i : Int) + 1 + j) := by
          rw [eqP_eatP (eqP_swP (eqS_wr es H) (by show 0 ≤ (i : Int) ∧ (i : Int) < σ 47 1; omega) (by show 0 ≤ (i : Int) + 1 + j ∧ (i : Int) + 1 + j < σ 47 1; omega)) Ho, ← hee]
        have nx : ∀ (τ : ev_M), eqS (τ 47) (σ 47) → frD σ τ → ∀ (z : Int) (ls : List (Nat × ev_V)), z = (swi e i st (j + 1)).2 → ev_lk ls 0 = some (vR 46) → ev_lk ls 1 = some (vI m) → ev_lk ls 2 = some (vI (swi e i st (j + 1)).1) → ev_lk ls 4 = some (vI i) → ev_lk ls 5 = some (vI ((i : Int) + 1 + j)) → Ev b mX6_swap 95 ls [vI z] τ R := by
          intro τ es fr z ls hz l0 l1 l2 l4 l5
          refine Ev.lsub (ls' := [(0, vR 46), (1, vI m), (2, vI (swi e i st (j + 1)).1), (4, vI i), (5, vI ((i : Int) + 1 + j))]) (by simp [l0, l1, l2, l4, l5]) ?_
          refine ev_istore_n dX6_swap_95 (by decide) rfl ?_
          refine ev_iinc dX6_swap_96 rfl (by decide) rfl ?_
          refine ev_goto (tgt := 42) dX6_swap_99 (by decide) ?_
          refine ih (j + 1) τ _ rfl rfl rfl (by rw [hz]; rfl) rfl ?_ (by omega) es fr
          show some (vI _) = some (vI _)
          congr 2
          try omega
        refine ev_iload dX6_swap_42 rfl ?_
        refine ev_aload_n dX6_swap_44 rfl ?_
        refine ev_getr 0 dX6_swap_45 rfl rfl flX6_7 iwX6 (by decide) rfl ?_
        refine ev_iconst dX6_swap_48 ?_
        refine ev_iald dX6_swap_49 rfl (by omega) ?_
        refine ev_icmp_ge (tgt := 102) dX6_swap_50 (by decide) (by omega) (by omega) (fun c50 => ?_) (fun c50 => ?_)
        · exact absurd c50 (by omega)
        · refine ev_aload_n dX6_swap_53 rfl ?_
          refine ev_iload dX6_swap_54 rfl ?_
          refine ev_iload dX6_swap_56 rfl ?_
          refine ev_iload_n dX6_swap_58 rfl ?_
          refine ev_callV (c_X6_swapped (n := m) (eqS_ok es H) a0 (by omega) (by omega) (by omega) (by omega)) okX6_swapped dX6_swap_59 mlX6_208 rfl rfl ⟨by decide, by decide⟩ rfl (Nat.le_of_ble_eq_true rfl) (fun r59 τ59 h59 => ?_)
          obtain ⟨rfl, g1, g2⟩ := h59
          rw [eN]
          have es2 := eqS_tr g1 es
          have fr2 := frD_tr fr g2
          refine ev_istore dX6_swap_62 (by decide) rfl ?_
          refine ev_iload dX6_swap_64 rfl ?_
          refine ev_iload_n dX6_swap_66 rfl ?_
          refine ev_icmp_ge (tgt := 81) dX6_swap_67 (by decide) (by omega) (by omega) (fun c67 => ?_) (fun c67 => ?_)
          · have sw : swi e i st (j + 1) = swi e i st j := by
              show (if e i ((i : Int) + 1 + j) < (swi e i st j).2 then _ else swi e i st j) = _
              rw [if_neg (by omega)]
            refine ev_iload_n dX6_swap_81 rfl ?_
            refine ev_istore_n dX6_swap_82 (by decide) rfl ?_
            refine ev_iload dX6_swap_83 rfl ?_
            refine ev_iload_n dX6_swap_85 rfl ?_
            refine ev_icmp_ge (tgt := 94) dX6_swap_86 (by decide) (by omega) (by omega) (fun c86 => ?_) (fun c86 => ?_)
            · refine ev_iload_n dX6_swap_94 rfl ?_
              exact nx τ59 es2 fr2 _ _ (by rw [sw]) rfl rfl (by rw [sw]; rfl) rfl rfl
            · exact absurd c86 (by omega)
          · have sw : swi e i st (j + 1) = (10 * (i : Int) + ((i : Int) + 1 + j), e i ((i : Int) + 1 + j)) := by
              show (if e i ((i : Int) + 1 + j) < (swi e i st j).2 then _ else swi e i st j) = _
              rw [if_pos (by omega)]
            refine ev_bipush dX6_swap_70 (by decide) ?_
            refine ev_iload dX6_swap_72 rfl ?_
            refine ev_imul dX6_swap_74 ?_
            refine ev_iload dX6_swap_75 rfl ?_
            refine ev_iadd dX6_swap_77 ?_
            refine ev_goto (tgt := 82) dX6_swap_78 (by decide) ?_
            refine ev_istore_n dX6_swap_82 (by decide) rfl ?_
            refine ev_iload dX6_swap_83 rfl ?_
            refine ev_iload_n dX6_swap_85 rfl ?_
            refine ev_icmp_ge (tgt := 94) dX6_swap_86 (by decide) (by omega) (by omega) (fun c86 => ?_) (fun c86 => ?_)
            · exact absurd c86 (by omega)
            · refine ev_iload dX6_swap_89 rfl ?_
              refine ev_goto (tgt := 95) dX6_swap_91 (by decide) ?_
              exact nx τ59 es2 fr2 _ _ (by rw [sw]) rfl rfl (by rw [sw]; rfl) rfl rfl
    have sob : ∀ i : Nat, i ≤ nl → (-1 ≤ (swo e E nl i).1 ∧ (swo e E nl i).1 ≤ 1000) ∧ 0 ≤ (swo e E nl i).2 ∧ (swo e E nl i).2 ≤ 1000000 := by
      have hc : ∀ i : Nat, i ≤ nl → swo e E nl i = swo (fun l o => min 1000000 (max 0 (e l o))) E nl i := fun i hi => swo_congr (fun l o hl ho => by have := heb l o (by omega) (by omega); omega) hi
      intro i
      induction i with
      | zero => intro _; simp only [swo]; omega
      | succ i ih =>
        intro hi
        have q := ih (by omega)
        rw [hc _ (by omega)] at q ⊢
        exact swi_bd (fun l o => by omega) (by omega) q (by omega) _ (by omega)
    have outer : ∀ (k i : Nat) (τ : ev_M) (ls : List (Nat × ev_V)), ev_lk ls 0 = some (vR 46) → ev_lk ls 1 = some (vI m) → ev_lk ls 2 = some (vI (swo e E nl i).1) → ev_lk ls 3 = some (vI (swo e E nl i).2) → ev_lk ls 4 = some (vI i) → i + k = nl → eqS (τ 47) (σ 47) → frD σ τ → Ev b mX6_swap 25 ls [] τ R := by
      intro k
      induction k with
      | zero =>
        intro i τ ls l0 l1 l2 l3 l4 hk es fr
        refine Ev.lsub (ls' := [(0, vR 46), (1, vI m), (2, vI (swo e E nl i).1), (3, vI (swo e E nl i).2), (4, vI i)]) (by simp [l0, l1, l2, l3, l4]) ?_
        have e8 : τ 47 1 = nl := by rw [es 1 (by omega)]; exact hnl
        have ei : i = nl := by omega
        subst ei
        have sb := sob i (by omega)
        refine ev_iload dX6_swap_25 rfl ?_
        refine ev_aload_n dX6_swap_27 rfl ?_
        refine ev_getr 0 dX6_swap_28 rfl rfl flX6_7 iwX6 (by decide) rfl ?_
        refine ev_iconst dX6_swap_31 ?_
        refine ev_iald dX6_swap_32 rfl (by omega) ?_
        refine ev_icmp_ge (tgt := 108) dX6_swap_33 (by decide) (by omega) (by omega) (fun c33 => ?_) (fun c33 => ?_)
        · rw [← hR]
          refine ev_iload_n dX6_swap_108 rfl ?_
          refine ev_if_ge (tgt := 121) dX6_swap_109 (by decide) (by omega) (fun c109 => ?_) (fun c109 => ?_)
          · rw [if_neg (by omega)]
            refine ev_iload_n dX6_swap_121 rfl ?_
            refine ev_iret dX6_swap_122 rfl rfl ?_
            exact RP_D ha H fr es
          · rw [if_pos (by omega)]
            refine ev_aload_n dX6_swap_112 rfl ?_
            refine ev_ldc (z := -1000000004) dX6_swap_113 kcX6_162 (by decide) ?_
            refine ev_V1 (c_X6_finds (by omega)) okX6_finds dX6_swap_115 mlX6_101 rfl rfl ⟨by decide, by decide⟩ rfl (Nat.le_of_ble_eq_true rfl) ?_
            refine ev_goto (tgt := 122) dX6_swap_118 (by decide) ?_
            refine ev_iret dX6_swap_122 rfl rfl ?_
            exact RP_Df ha H fr es (by omega)
        · exact absurd c33 (by omega)
      | succ k ih =>
        intro i τ ls l0 l1 l2 l3 l4 hk es fr
        refine Ev.lsub (ls' := [(0, vR 46), (1, vI m), (2, vI (swo e E nl i).1), (3, vI (swo e E nl i).2), (4, vI i)]) (by simp [l0, l1, l2, l3, l4]) ?_
        have e8 : τ 47 1 = nl := by rw [es 1 (by omega)]; exact hnl
        refine ev_iload dX6_swap_25 rfl ?_
        refine ev_aload_n dX6_swap_27 rfl ?_
        refine ev_getr 0 dX6_swap_28 rfl rfl flX6_7 iwX6 (by decide) rfl ?_
        refine ev_iconst dX6_swap_31 ?_
        refine ev_iald dX6_swap_32 rfl (by omega) ?_
        refine ev_icmp_ge (tgt := 108) dX6_swap_33 (by decide) (by omega) (by omega) (fun c33 => ?_) (fun c33 => ?_)
        · exact absurd c33 (by omega)
        · refine ev_iload dX6_swap_36 rfl ?_
          refine ev_iconst dX6_swap_38 ?_
          refine ev_iadd dX6_swap_39 ?_
          refine ev_istore dX6_swap_40 (by decide) rfl ?_
          refine inner i (swo e E nl i) (by omega) ?_ ?_ (nl - 1 - i) 0 τ _ rfl rfl rfl rfl rfl ?_ (by omega) es fr
          · intro j hj
            have hc : swi e i (swo e E nl i) j = swi (fun l o => min 1000000 (max 0 (e l o))) i (swo e E nl i) j := swi_congr (fun x hx => by have := heb i ((i : Int) + 1 + x) (by omega) (by omega); omega)
            rw [hc]
            exact (swi_bd (fun l o => by omega) (by omega) (sob i (by omega)) (by omega) j (by omega)).2
          · intro τ' ls' k0 k1 k2 k3 k4 es' fr'
            refine Ev.lsub (ls' := [(0, vR 46), (1, vI m), (2, vI (swo e E nl (i + 1)).1), (3, vI (swo e E nl (i + 1)).2), (4, vI i)]) (by simp [k0, k1, k2, k3, k4, swo]) ?_
            refine ev_iinc dX6_swap_102 rfl (by decide) rfl ?_
            refine ev_goto (tgt := 25) dX6_swap_105 (by decide) ?_
            exact ih (i + 1) τ' _ rfl rfl rfl rfl rfl (by omega) es' fr'
          · show some (vI _) = some (vI _)
            congr 2
            try omega
    refine ev_iconst dX6_swap_14 ?_
    refine ev_istore_n dX6_swap_15 (by decide) rfl ?_
    refine ev_aload_n dX6_swap_16 rfl ?_
    refine ev_iload_n dX6_swap_17 rfl ?_
    refine ev_callV (c_X6_eatenOn (n := m) H (by omega) (by omega)) okX6_eatenOn dX6_swap_18 mlX6_190 rfl rfl ⟨by decide, by decide⟩ rfl (Nat.le_of_ble_eq_true rfl) (fun r18 τ18 h18 => ?_)
    obtain ⟨rfl, g1, g2⟩ := h18
    rw [ha, prA_0, hE]
    refine ev_istore_n dX6_swap_21 (by decide) rfl ?_
    refine ev_iconst dX6_swap_22 ?_
    refine ev_istore dX6_swap_23 (by decide) rfl ?_
    exact outer nl 0 _ _ rfl rfl rfl rfl rfl (by omega) g1 g2
  · rw [if_neg (by omega)]
    refine ev_aload_n dX6_swap_7 rfl ?_
    refine ev_ldc (z := -1000000001) dX6_swap_8 kcX6_50 (by decide) ?_
    refine ev_V1 (c_X6_finds (by omega)) okX6_finds dX6_swap_10 mlX6_101 rfl rfl ⟨by decide, by decide⟩ rfl (Nat.le_of_ble_eq_true rfl) ?_
    refine ev_iret dX6_swap_13 rfl rfl ?_
    exact RP_fnd ha
