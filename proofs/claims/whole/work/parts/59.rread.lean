/-! the model reads a book -/
theorem sm_flat {h : Int → Int → Int} : ∀ n : Nat, sm (fun p => h (p / 48) (p % 48)) (48 * n) = sm (fun o => sm (fun c => h o c) 48) n
  | 0 => rfl
  | n + 1 => by
    have ih := sm_flat (h := h) n
    have e : sm (fun i => h ((((48 * n : Nat) : Int) + i) / 48) ((((48 * n : Nat) : Int) + i) % 48)) 48 = sm (fun c => h n c) 48 := by
      refine sm_congr (fun c hc => ?_)
      rw [show ((48 * n : Nat) : Int) = 48 * (n : Int) by omega, show (48 * (n : Int) + (c : Int)) / 48 = n by omega, show (48 * (n : Int) + (c : Int)) % 48 = c by omega]
    rw [show 48 * (n + 1) = 48 * n + 48 by omega, sm_split, ih, e, sm.eq_2 (fun o => sm (fun c => h o c) 48) n]
theorem wr_up76 {f : Int → Int} {l o c : Int} (H : okP (wr f)) (hl : 0 ≤ l ∧ l < f 1) (ho : 0 ≤ o ∧ o < f 0) (hc : 0 ≤ c ∧ c < 48) : okP (mup (mup (wr f) 7 l o) 6 l c) ∧ eqP (mup (mup (wr f) 7 l o) 6 l c) (wr (upw (upw f (76 + 3 * l + 1) o) (76 + 3 * l + 0) c)) := by
  have h0 := okr0 H
  have e1 := wr_up7 (v := o) H (c := l) (by omega)
  have H1 := okP_mup7 (l := l) (v := o) H ho
  have H1' := eqP_ok (eqP_symm e1) H1
  have e2 := wr_up6 (v := c) H1' (c := l) (by omega)
  exact ⟨okP_mup6 H1 hc, eqP_trans (eqP_mup e1 (by omega)) e2⟩
theorem c_X6_read {b : ev_B} {σ : ev_M} {s l : Int} (H : okP (wr (σ 47))) (HS : okSR σ) (ha : σ 46 6 = 0) (h1 : (-2147483648 ≤ s ∧ s < 2147483648)) (h2 : (-2147483648 ≤ l ∧ l < 2147483648)) : Cl b mX6_read [vR 46, vI s, vI l] σ (RP σ (sc_read (prj σ) s l)) := by
  refine ev_enter okX6_read.1 (Nat.le_of_ble_eq_true rfl) ?_
  unfold sc_read
  rw [prj_1]
  have h0 := okr0 H
  have p18 : prj σ 1 8 = σ 47 1 := rfl
  have hb : 0 ≤ s ∧ s ≤ 3 → 0 ≤ σ 56 s ∧ σ 56 s ≤ 64 := fun h => by have := (HS s h).1; omega
  refine ev_aload_n dX6_read_0 rfl ?_
  refine ev_iload_n dX6_read_1 rfl ?_
  refine ev_V1 (c_X6_wrongSheet h1 hb) okX6_wrongSheet dX6_read_2 mlX6_318 rfl rfl ⟨by decide, by decide⟩ rfl (Nat.le_of_ble_eq_true rfl) ?_
  by_cases hs : 0 ≤ s ∧ s ≤ 3
  · have hs' : ¬ ¬ (0 ≤ s ∧ s ≤ 3) := fun z => z hs
    rw [if_neg hs', if_neg hs', pS1 hs, pS2 hs]
    obtain ⟨q1, q2, q3⟩ := HS s hs
    by_cases hz : σ 56 s = 0
    · rw [if_pos hz, if_pos hz]
      refine ev_istore_n dX6_read_5 (by decide) rfl ?_
      refine ev_iload_n dX6_read_6 rfl ?_
      refine ev_if_ne (tgt := 23) dX6_read_7 (by decide) (by omega) (fun c7 => ?_) (fun c7 => ?_)
      · refine ev_iload_n dX6_read_23 rfl ?_
        refine ev_istore_n dX6_read_24 (by decide) rfl ?_
        refine ev_iload_n dX6_read_25 rfl ?_
        refine ev_if_eq (tgt := 35) dX6_read_26 (by decide) (by omega) (fun c26 => ?_) (fun c26 => ?_)
        · exact absurd c26 (by omega)
        · refine ev_aload_n dX6_read_29 rfl ?_
          refine ev_iload_n dX6_read_30 rfl ?_
          refine ev_V1 (c_X6_finds (by omega)) okX6_finds dX6_read_31 mlX6_101 rfl rfl ⟨by decide, by decide⟩ rfl (Nat.le_of_ble_eq_true rfl) ?_
          refine ev_iret dX6_read_34 rfl rfl ?_
          exact RP_fnd ha
      · exact absurd c7 (by omega)
    · rw [if_neg hz, if_neg hz]
      refine ev_istore_n dX6_read_5 (by decide) rfl ?_
      refine ev_iload_n dX6_read_6 rfl ?_
      refine ev_if_ne (tgt := 23) dX6_read_7 (by decide) (by omega) (fun c7 => ?_) (fun c7 => ?_)
      · exact absurd rfl c7
      · refine ev_aload_n dX6_read_10 rfl ?_
        refine ev_iload_n dX6_read_11 rfl ?_
        refine ev_Vbne (tgt := 23) (c_X6_isLikeness (by omega) (by omega)) okX6_isLikeness dX6_read_12 mlX6_143 rfl rfl ⟨by decide, by decide⟩ rfl (Nat.le_of_ble_eq_true rfl) dX6_read_15 (by decide) (fun c12 => ?_) (fun c12 => ?_)
        · rw [if_neg (by omega)]
          obtain ⟨ns, hns, hns2⟩ := nn_ex h0.2.2.1.1
          have p13 : (prj σ 1 3).toNat = ns := hns2
          rw [p13, ← sm_flat]
          generalize hn : (σ 57 s).toNat = n
          generalize hP : wr (σ 47) = P at *
          generalize hg : (fun p : Int => rdS P (prj σ (ev_rt s.toNat + 1)) n l (p / 48) (p % 48)) = g
          have hgv : ∀ p, g p = rdS P (prj σ (ev_rt s.toNat + 1)) n l (p / 48) (p % 48) := fun p => by rw [← hg]
          have loop : ∀ (m p : Nat) (τ : ev_M) (ls : List (Nat × ev_V)), ev_lk ls 0 = some (vR 46) → ev_lk ls 1 = some (vI s) → ev_lk ls 2 = some (vI l) → ev_lk ls 4 = some (vI (sm g p)) → ev_lk ls 5 = some (vI p) → p + m = 48 * ns → eqS (τ 47) (σ 47) → eqS (τ 50) (σ 47) → frD σ τ → Ev b mX6_read 45 ls [] τ (RP σ (sm g (48 * ns), prj σ)) := by
            intro m
            induction m with
            | zero =>
              intro p τ ls l0 l1 l2 l4 l5 h es e50 fr
              refine Ev.lsub (ls' := [(0, vR 46), (1, vI s), (2, vI l), (4, vI (sm g p)), (5, vI p)]) (by simp [l0, l1, l2, l4, l5]) ?_
              have e3 : τ 47 0 = ns := by rw [es 0 (by omega)]; exact hns
              refine ev_iload dX6_read_45 rfl ?_
              refine ev_aload_n dX6_read_47 rfl ?_
              refine ev_getr 0 dX6_read_48 rfl rfl flX6_7 iwX6 (by decide) rfl ?_
              refine ev_iconst dX6_read_51 ?_
              refine ev_iald dX6_read_52 rfl (by omega) ?_
              refine ev_bipush dX6_read_53 (by decide) ?_
              refine ev_imul dX6_read_55 ?_
              refine ev_icmp_ge (tgt := 117) dX6_read_56 (by decide) (by omega) (by omega) (fun c56 => ?_) (fun c56 => ?_)
              · refine ev_iload dX6_read_117 rfl ?_
                refine ev_iret dX6_read_119 rfl rfl ?_
                have ep : p = 48 * ns := by omega
                subst ep
                exact RP_D ha (by rw [hP]; exact H) fr es
              · exact absurd c56 (by omega)
            | succ m ih =>
              intro p τ ls l0 l1 l2 l4 l5 h es e50 fr
              refine Ev.lsub (ls' := [(0, vR 46), (1, vI s), (2, vI l), (4, vI (sm g p)), (5, vI p)]) (by simp [l0, l1, l2, l4, l5]) ?_
              have e3 : τ 47 0 = ns := by rw [es 0 (by omega)]; exact hns
              have H' : okP (wr (σ 47)) := by rw [hP]; exact H
              have U := wr_up76 (l := l) (o := (p : Int) / 48) (c := (p : Int) % 48) H' (by omega) (by omega) (by omega)
              refine ev_iload dX6_read_45 rfl ?_
              refine ev_aload_n dX6_read_47 rfl ?_
              refine ev_getr 0 dX6_read_48 rfl rfl flX6_7 iwX6 (by decide) rfl ?_
              refine ev_iconst dX6_read_51 ?_
              refine ev_iald dX6_read_52 rfl (by omega) ?_
              refine ev_bipush dX6_read_53 (by decide) ?_
              refine ev_imul dX6_read_55 ?_
              refine ev_icmp_ge (tgt := 117) dX6_read_56 (by decide) (by omega) (by omega) (fun c56 => ?_) (fun c56 => ?_)
              · exact absurd c56 (by omega)
              · refine ev_aload_n dX6_read_59 rfl ?_
                refine ev_getr 0 dX6_read_60 rfl rfl flX6_7 iwX6 (by decide) rfl ?_
                refine ev_iload_n dX6_read_63 rfl ?_
                refine ev_iconst dX6_read_64 ?_
                refine ev_S1 c_X6_placeOf okX6_placeOf dX6_read_65 mlX6_63 ⟨by decide, by decide⟩ rfl (Nat.le_of_ble_eq_true rfl) ?_
                refine ev_iload dX6_read_68 rfl ?_
                refine ev_bipush dX6_read_70 (by decide) ?_
                refine ev_idiv dX6_read_72 (by omega) (by omega) ?_
                refine ev_iast dX6_read_73 rfl (by omega) ?_
                refine ev_aload_n dX6_read_74 rfl ?_
                refine ev_getr 0 dX6_read_75 rfl rfl flX6_7 iwX6 (by decide) rfl ?_
                refine ev_iload_n dX6_read_78 rfl ?_
                refine ev_iconst dX6_read_79 ?_
                refine ev_S1 c_X6_placeOf okX6_placeOf dX6_read_80 mlX6_63 ⟨by decide, by decide⟩ rfl (Nat.le_of_ble_eq_true rfl) ?_
                refine ev_iload dX6_read_83 rfl ?_
                refine ev_bipush dX6_read_85 (by decide) ?_
                refine ev_irem dX6_read_87 (by omega) (by omega) ?_
                refine ev_iast dX6_read_88 rfl (by omega) ?_
                generalize hω : mup (mup τ 47 (76 + 3 * l + 1) ((p : Int) / 48)) 47 (76 + 3 * l + 0) ((p : Int) % 48) = ω
                have wa : ∀ a : Nat, a ≠ 47 → ω a = τ a := fun a x => by rw [← hω, mup_ne x, mup_ne x]
                have w47 : eqS (ω 47) (upw (upw (σ 47) (76 + 3 * l + 1) ((p : Int) / 48)) (76 + 3 * l + 0) ((p : Int) % 48)) := fun i hi => by
                  rw [← hω, mup_row, mup_row]
                  unfold upw
                  rw [es i hi]
                have Hu := eqP_ok (eqP_symm U.2) U.1
                have Ho := eqS_ok w47 Hu
                have eo := eqP_trans (eqS_wr w47 Hu) (eqP_symm U.2)
                have a0 : ω 46 6 = 0 := by rw [wa 46 (by decide), fr 46 (by omega) (by omega) (by omega)]; exact ha
                have w56 : ω 56 = σ 56 := by rw [wa 56 (by decide), fr 56 (by omega) (by omega) (by omega)]
                have w57 : ω 57 = σ 57 := by rw [wa 57 (by decide), fr 57 (by omega) (by omega) (by omega)]
                have w58 : ω 58 = σ 58 := by rw [wa 58 (by decide), fr 58 (by omega) (by omega) (by omega)]
                have HSω : okSR ω := by unfold okSR; rw [w56, w57, w58]; exact HS
                have eg : (if gsB (wr (ω 47)) (fun i => ω 58 (40 * s + i)) (ω 57 s).toNat = true then (1 : Int) else 0) = g p := by
                  rw [hgv, w57, w58, hn]
                  unfold rdS
                  rw [← hP]
                  rw [gsB_eq eo U.1 (f := prj σ (ev_rt s.toNat + 1)) (fun i _ => by rw [pS3 hs])]
                have nx : ∀ (v : Int) (υ : ev_M) (ls : List (Nat × ev_V)), v = g p → (∀ a : Nat, a ≠ 47 → a < 52 ∨ 54 < a → υ a = ω a) → ev_lk ls 0 = some (vR 46) → ev_lk ls 1 = some (vI s) → ev_lk ls 2 = some (vI l) → ev_lk ls 5 = some (vI p) → Ev b mX6_read 105 ls [vI v, vI (sm g p), vR 46] υ (RP σ (sm g (48 * ns), prj σ)) := by
                  intro v υ ls hv fu l0 l1 l2 l5
                  refine Ev.lsub (ls' := [(0, vR 46), (1, vI s), (2, vI l), (5, vI p)]) (by simp [l0, l1, l2, l5]) ?_
                  refine ev_iadd dX6_read_105 ?_
                  refine ev_V1 c_X6_takesBack okX6_takesBack dX6_read_106 mlX6_187 rfl rfl ⟨by decide, by decide⟩ rfl (Nat.le_of_ble_eq_true rfl) ?_
                  refine ev_istore dX6_read_109 (by decide) rfl ?_
                  refine ev_iinc dX6_read_111 rfl (by decide) rfl ?_
                  refine ev_goto (tgt := 45) dX6_read_114 (by decide) ?_
                  have u50 : υ 50 = τ 50 := by rw [fu 50 (by omega) (by omega), wa 50 (by decide)]
                  refine ih (p + 1) _ _ rfl rfl rfl ?_ rfl (by omega) (fun i hi => ?_) (fun i hi => ?_) (fun a x1 x2 x3 => ?_)
                  · show some (vI _) = some (vI _)
                    rw [sm, hv]
                  · rw [cpy_at i hi, u50]; exact e50 i hi
                  · rw [cpy_ne (by decide), u50]; exact e50 i hi
                  · rw [cpy_ne x1, fu a x1 x3, wa a x1]; exact fr a x1 x2 x3
                refine ev_aload_n dX6_read_89 rfl ?_
                refine ev_iload dX6_read_90 rfl ?_
                refine ev_aload_n dX6_read_92 rfl ?_
                refine ev_iload_n dX6_read_93 rfl ?_
                refine ev_callV (c_X6_isBook Ho HSω a0 hs) okX6_isBook dX6_read_94 mlX6_325 rfl rfl ⟨by decide, by decide⟩ rfl (Nat.le_of_ble_eq_true rfl) (fun r94 τ94 h94 => ?_)
                obtain ⟨rfl, g2⟩ := h94
                rw [eg]
                have gb : g p = 0 ∨ g p = 1 := by
                  rw [hgv]; unfold rdS
                  split
                  · exact Or.inr rfl
                  · exact Or.inl rfl
                refine ev_if_eq (tgt := 104) dX6_read_97 (by decide) (by omega) (fun c97 => ?_) (fun c97 => ?_)
                · refine ev_iconst dX6_read_104 ?_
                  exact nx 0 τ94 _ c97.symm g2 rfl rfl rfl rfl
                · refine ev_iconst dX6_read_100 ?_
                  refine ev_goto (tgt := 105) dX6_read_101 (by decide) ?_
                  exact nx 1 τ94 _ (by omega) g2 rfl rfl rfl rfl
          refine ev_iload_n dX6_read_23 rfl ?_
          refine ev_istore_n dX6_read_24 (by decide) rfl ?_
          refine ev_iload_n dX6_read_25 rfl ?_
          refine ev_if_eq (tgt := 35) dX6_read_26 (by decide) (by omega) (fun c26 => ?_) (fun c26 => ?_)
          · refine ev_aload_n dX6_read_35 rfl ?_
            refine ev_V0 c_X6_laysAside okX6_laysAside dX6_read_36 mlX6_184 rfl rfl ⟨by decide, by decide⟩ rfl (Nat.le_of_ble_eq_true rfl) ?_
            refine ev_iconst dX6_read_39 ?_
            refine ev_istore dX6_read_40 (by decide) rfl ?_
            refine ev_iconst dX6_read_42 ?_
            refine ev_istore dX6_read_43 (by decide) rfl ?_
            refine loop (48 * ns) 0 _ _ rfl rfl rfl rfl rfl (by omega) ?_ (fun i hi => cpy_at i hi) (fun a x1 x2 x3 => cpy_ne x2)
            rw [cpy_ne (by decide)]
            exact eqS_rf
          · exact absurd rfl c26
        · rw [if_pos (by omega)]
          refine ev_ldc (z := -1000000001) dX6_read_18 kcX6_50 (by decide) ?_
          refine ev_goto (tgt := 24) dX6_read_20 (by decide) ?_
          refine ev_istore_n dX6_read_24 (by decide) rfl ?_
          refine ev_iload_n dX6_read_25 rfl ?_
          refine ev_if_eq (tgt := 35) dX6_read_26 (by decide) (by omega) (fun c26 => ?_) (fun c26 => ?_)
          · exact absurd c26 (by omega)
          · refine ev_aload_n dX6_read_29 rfl ?_
            refine ev_iload_n dX6_read_30 rfl ?_
            refine ev_V1 (c_X6_finds (by omega)) okX6_finds dX6_read_31 mlX6_101 rfl rfl ⟨by decide, by decide⟩ rfl (Nat.le_of_ble_eq_true rfl) ?_
            refine ev_iret dX6_read_34 rfl rfl ?_
            exact RP_fnd ha
  · rw [if_pos hs, if_pos hs]
    refine ev_istore_n dX6_read_5 (by decide) rfl ?_
    refine ev_iload_n dX6_read_6 rfl ?_
    refine ev_if_ne (tgt := 23) dX6_read_7 (by decide) (by omega) (fun c7 => ?_) (fun c7 => ?_)
    · refine ev_iload_n dX6_read_23 rfl ?_
      refine ev_istore_n dX6_read_24 (by decide) rfl ?_
      refine ev_iload_n dX6_read_25 rfl ?_
      refine ev_if_eq (tgt := 35) dX6_read_26 (by decide) (by omega) (fun c26 => ?_) (fun c26 => ?_)
      · exact absurd c26 (by omega)
      · refine ev_aload_n dX6_read_29 rfl ?_
        refine ev_iload_n dX6_read_30 rfl ?_
        refine ev_V1 (c_X6_finds (by omega)) okX6_finds dX6_read_31 mlX6_101 rfl rfl ⟨by decide, by decide⟩ rfl (Nat.le_of_ble_eq_true rfl) ?_
        refine ev_iret dX6_read_34 rfl rfl ?_
        exact RP_fnd ha
    · exact absurd c7 (by omega)
