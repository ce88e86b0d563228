/-! the model's fears by its rows -/
def tbR (σ : ev_M) : Int → Int → Int := fun l d => σ 53 (13 * l + d)
theorem c_X6_fearBy {b : ev_B} {σ : ev_M} {c : Int} (H : okP (wr (σ 47))) (ha : 0 ≤ σ 46 6 ∧ σ 46 6 < 256) (hc : 0 ≤ c ∧ c < 48) (hT : ∀ l d : Int, 0 ≤ l ∧ l < σ 47 1 → 0 ≤ d ∧ d < 13 → -999 ≤ tbR σ l d ∧ tbR σ l d ≤ 1000) : Cl b mX6_fearBy [vR 46, vI c] σ (fun r τ => r = some (vI (fearT (wr (σ 47)) (prA (σ 46 6)) (tbR σ) (-1000) c)) ∧ ∀ a : Nat, a ≠ 54 → τ a = σ a) := by
  refine ev_enter okX6_fearBy.1 (Nat.le_of_ble_eq_true rfl) ?_
  have h0 := okr0 H
  obtain ⟨n, hn, hn2⟩ := nn_ex h0.2.2.2.1
  obtain ⟨ns, hns, hns2⟩ := nn_ex h0.2.2.1.1
  generalize hM : (fun (k : Int) (n : Nat) => mst (wr (σ 47)) (prA (σ 46 6)) (tbR σ) c k (-1000) n) = M
  have hMv : ∀ k n, M k n = mst (wr (σ 47)) (prA (σ 46 6)) (tbR σ) c k (-1000) n := fun k n => by rw [← hM]
  have hfe : fearT (wr (σ 47)) (prA (σ 46 6)) (tbR σ) (-1000) c = sm (fun k => if M k n = -1000 then 0 else M k n) ns := by
    unfold fearT
    have en : (wr (σ 47) 0 3).toNat = ns := hns2
    have el : (wr (σ 47) 0 8).toNat = n := hn2
    rw [en, el, ← hM]
  rw [hfe]
  have htd : ∀ l : Nat, l < n → -1000 ≤ tbR σ l (sp_dist (wr (σ 47) 6 l) c) ∧ tbR σ l (sp_dist (wr (σ 47) 6 l) c) ≤ 1000 := by
    intro l hl
    have q := okrl H (l := l) (by omega)
    have q2 := sp_dist_bd q.1 hc
    have := hT l _ (by omega) q2
    exact ⟨by show -1000 ≤ tbR σ l (sp_dist (σ 47 (76 + 3 * l + 0)) c); omega, this.2⟩
  have hMb : ∀ k i, i ≤ n → -1000 ≤ M k i ∧ M k i ≤ 1000 := fun k i hi => by
    rw [hMv]
    have := mst_bd2 (P := wr (σ 47)) (pr := prA (σ 46 6)) (tb := tbR σ) (c := c) (k := k) (s := -1000) (by omega) (n := i) (fun l hl => htd l (by omega))
    omega
  have sum : ∀ (τ : ev_M), (∀ a : Nat, a ≠ 54 → τ a = σ a) → (∀ k : Int, 0 ≤ k ∧ k < ns → τ 54 k = M k n) → ∀ (m i : Nat), i + m = ns → Ev b mX6_fearBy 115 [(0, vR 46), (1, vI c), (2, vI (sm (fun k => if M k n = -1000 then 0 else M k n) i)), (3, vI i)] [] τ (fun r τ => r = some (vI (sm (fun k => if M k n = -1000 then 0 else M k n) ns)) ∧ ∀ a : Nat, a ≠ 54 → τ a = σ a) := by
    intro τ f1 f2 m
    have e3 : τ 47 0 = ns := by rw [f1 47 (by omega)]; exact hns
    induction m with
    | zero =>
      intro i h
      refine ev_iload_n dX6_fearBy_115 rfl ?_
      refine ev_aload_n dX6_fearBy_116 rfl ?_
      refine ev_getr 0 dX6_fearBy_117 rfl rfl flX6_7 iwX6 (by decide) rfl ?_
      refine ev_iconst dX6_fearBy_120 ?_
      refine ev_iald dX6_fearBy_121 rfl (by omega) ?_
      refine ev_icmp_ge (tgt := 156) dX6_fearBy_122 (by decide) (by omega) (by omega) (fun c122 => ?_) (fun c122 => ?_)
      · refine ev_iload_n dX6_fearBy_156 rfl ?_
        refine ev_iret dX6_fearBy_157 rfl rfl ?_
        have e : i = ns := by omega
        subst e
        exact ⟨rfl, f1⟩
      · exact absurd c122 (by omega)
    | succ m ih =>
      intro i h
      have e4 := f2 i (by omega)
      have hb := hMb i n (by omega)
      refine ev_iload_n dX6_fearBy_115 rfl ?_
      refine ev_aload_n dX6_fearBy_116 rfl ?_
      refine ev_getr 0 dX6_fearBy_117 rfl rfl flX6_7 iwX6 (by decide) rfl ?_
      refine ev_iconst dX6_fearBy_120 ?_
      refine ev_iald dX6_fearBy_121 rfl (by omega) ?_
      refine ev_icmp_ge (tgt := 156) dX6_fearBy_122 (by decide) (by omega) (by omega) (fun c122 => ?_) (fun c122 => ?_)
      · exact absurd c122 (by omega)
      · refine ev_iload_n dX6_fearBy_125 rfl ?_
        refine ev_aload_n dX6_fearBy_126 rfl ?_
        refine ev_getr 9 dX6_fearBy_127 rfl rfl flX6_31 iwX6 (by decide) rfl ?_
        refine ev_iload_n dX6_fearBy_130 rfl ?_
        refine ev_iald dX6_fearBy_131 rfl (by omega) ?_
        refine ev_sipush dX6_fearBy_132 (by decide) ?_
        refine ev_icmp_ne (tgt := 142) dX6_fearBy_135 (by decide) (by omega) (by omega) (fun c135 => ?_) (fun c135 => ?_)
        · refine ev_aload_n dX6_fearBy_142 rfl ?_
          refine ev_getr 9 dX6_fearBy_143 rfl rfl flX6_31 iwX6 (by decide) rfl ?_
          refine ev_iload_n dX6_fearBy_146 rfl ?_
          refine ev_iald dX6_fearBy_147 rfl (by omega) ?_
          refine ev_iadd dX6_fearBy_148 ?_
          refine ev_istore_n dX6_fearBy_149 (by decide) rfl ?_
          refine ev_iinc dX6_fearBy_150 rfl (by decide) rfl ?_
          refine ev_goto (tgt := 115) dX6_fearBy_153 (by decide) ?_
          have e : sm (fun k => if M k n = -1000 then 0 else M k n) i + τ 54 i = sm (fun k => if M k n = -1000 then 0 else M k n) (i + 1) := by
            rw [sm, if_neg (by omega), e4]
          rw [e]
          exact ih (i + 1) (by omega)
        · refine ev_iconst dX6_fearBy_138 ?_
          refine ev_goto (tgt := 148) dX6_fearBy_139 (by decide) ?_
          refine ev_iadd dX6_fearBy_148 ?_
          refine ev_istore_n dX6_fearBy_149 (by decide) rfl ?_
          refine ev_iinc dX6_fearBy_150 rfl (by decide) rfl ?_
          refine ev_goto (tgt := 115) dX6_fearBy_153 (by decide) ?_
          have e : sm (fun k => if M k n = -1000 then 0 else M k n) i + 0 = sm (fun k => if M k n = -1000 then 0 else M k n) (i + 1) := by
            rw [sm, if_pos (by omega)]
          rw [e]
          exact ih (i + 1) (by omega)
  have loop : ∀ (m i : Nat) (τ : ev_M) (ls : List (Nat × ev_V)), ev_lk ls 0 = some (vR 46) → ev_lk ls 1 = some (vI c) → ev_lk ls 2 = some (vI i) → i + m = n → (∀ a : Nat, a ≠ 54 → τ a = σ a) → (∀ k : Int, 0 ≤ k ∧ k < ns → τ 54 k = M k i) → Ev b mX6_fearBy 29 ls [] τ (fun r τ => r = some (vI (sm (fun k => if M k n = -1000 then 0 else M k n) ns)) ∧ ∀ a : Nat, a ≠ 54 → τ a = σ a) := by
    intro m
    induction m with
    | zero =>
      intro i τ ls l0 l1 l2 h f1 f2
      refine Ev.lsub (ls' := [(0, vR 46), (1, vI c), (2, vI i)]) (by simp [l0, l1, l2]) ?_
      have e8 : τ 47 1 = n := by rw [f1 47 (by omega)]; exact hn
      refine ev_iload_n dX6_fearBy_29 rfl ?_
      refine ev_aload_n dX6_fearBy_30 rfl ?_
      refine ev_getr 0 dX6_fearBy_31 rfl rfl flX6_7 iwX6 (by decide) rfl ?_
      refine ev_iconst dX6_fearBy_34 ?_
      refine ev_iald dX6_fearBy_35 rfl (by omega) ?_
      refine ev_icmp_ge (tgt := 111) dX6_fearBy_36 (by decide) (by omega) (by omega) (fun c36 => ?_) (fun c36 => ?_)
      · refine ev_iconst dX6_fearBy_111 ?_
        refine ev_istore_n dX6_fearBy_112 (by decide) rfl ?_
        refine ev_iconst dX6_fearBy_113 ?_
        refine ev_istore_n dX6_fearBy_114 (by decide) rfl ?_
        have e : i = n := by omega
        subst e
        exact sum τ f1 f2 ns 0 (by omega)
      · exact absurd c36 (by omega)
    | succ m ih =>
      intro i τ ls l0 l1 l2 h f1 f2
      refine Ev.lsub (ls' := [(0, vR 46), (1, vI c), (2, vI i)]) (by simp [l0, l1, l2]) ?_
      have e47 := f1 47 (by omega)
      have e8 : τ 47 1 = n := by rw [e47]; exact hn
      have e46 : τ 46 6 = σ 46 6 := by rw [f1 46 (by omega)]
      have q := okrl H (l := i) (by omega)
      have qd := sp_dist_bd hc q.1
      have qt := hT i (sp_dist c (σ 47 (76 + 3 * i + 0))) (by omega) qd
      unfold tbR at qt
      have qm := f2 (σ 47 (76 + 3 * i + 1)) (by omega)
      have qb := hMb (σ 47 (76 + 3 * i + 1)) i (by omega)
      have e53 : τ 53 (13 * i + sp_dist c (σ 47 (76 + 3 * i + 0))) = σ 53 (13 * i + sp_dist c (σ 47 (76 + 3 * i + 0))) := by rw [f1 53 (by omega)]
      have e60 : τ 47 (76 + 3 * i + 0) = σ 47 (76 + 3 * i + 0) := by rw [e47]
      have e61 : τ 47 (76 + 3 * i + 1) = σ 47 (76 + 3 * i + 1) := by rw [e47]
      have mn : ∀ k, ¬ (σ 47 (76 + 3 * i + 1) = k ∧ prA (σ 46 6) i = true) → M k (i + 1 : Nat) = M k i := fun k z => by
        rw [hMv, hMv, mst]
        exact if_neg z
      have my : prA (σ 46 6) i = true → M (σ 47 (76 + 3 * i + 1)) (i + 1 : Nat) = max (M (σ 47 (76 + 3 * i + 1)) i) (σ 53 (13 * i + sp_dist c (σ 47 (76 + 3 * i + 0)))) := fun z2 => by
        rw [hMv, hMv, mst, sp_dist_comm c]
        exact if_pos ⟨rfl, z2⟩
      have fin : prA (σ 46 6) i = true → ∀ v : Int, v = M (σ 47 (76 + 3 * i + 1)) (i + 1 : Nat) → ∀ ls : List (Nat × ev_V), ev_lk ls 0 = some (vR 46) → ev_lk ls 1 = some (vI c) → ev_lk ls 2 = some (vI i) → Ev b mX6_fearBy 105 ls [] (mup τ 54 (σ 47 (76 + 3 * i + 1)) v) (fun r τ => r = some (vI (sm (fun k => if M k n = -1000 then 0 else M k n) ns)) ∧ ∀ a : Nat, a ≠ 54 → τ a = σ a) := by
        intro z v hv ls l0 l1 l2
        refine Ev.lsub (ls' := [(0, vR 46), (1, vI c), (2, vI i)]) (by simp [l0, l1, l2]) ?_
        refine ev_iinc dX6_fearBy_105 rfl (by decide) rfl ?_
        refine ev_goto (tgt := 29) dX6_fearBy_108 (by decide) ?_
        refine ih (i + 1) _ _ rfl rfl rfl (by omega) (fun a ha => by rw [mup_ne ha]; exact f1 a ha) (fun k hk => ?_)
        by_cases e : k = σ 47 (76 + 3 * i + 1)
        · rw [e, mup_at]; exact hv
        · rw [mup_off e, mn k (fun w => e w.1.symm)]; exact f2 k hk
      refine ev_iload_n dX6_fearBy_29 rfl ?_
      refine ev_aload_n dX6_fearBy_30 rfl ?_
      refine ev_getr 0 dX6_fearBy_31 rfl rfl flX6_7 iwX6 (by decide) rfl ?_
      refine ev_iconst dX6_fearBy_34 ?_
      refine ev_iald dX6_fearBy_35 rfl (by omega) ?_
      refine ev_icmp_ge (tgt := 111) dX6_fearBy_36 (by decide) (by omega) (by omega) (fun c36 => ?_) (fun c36 => ?_)
      · exact absurd c36 (by omega)
      · refine ev_aload_n dX6_fearBy_39 rfl ?_
        refine ev_iload_n dX6_fearBy_40 rfl ?_
        refine ev_Vbeq (tgt := 105) (c_X6_isThere (by omega) (by omega)) okX6_isThere dX6_fearBy_41 mlX6_83 rfl rfl ⟨by decide, by decide⟩ rfl (Nat.le_of_ble_eq_true rfl) dX6_fearBy_44 (by decide) (fun c41 => ?_) (fun c41 => ?_)
        · rw [e46] at c41
          refine ev_iinc dX6_fearBy_105 rfl (by decide) rfl ?_
          refine ev_goto (tgt := 29) dX6_fearBy_108 (by decide) ?_
          refine ih (i + 1) τ _ rfl rfl rfl (by omega) f1 (fun k hk => ?_)
          rw [mn k (fun w => c41 w.2)]
          exact f2 k hk
        · rw [e46] at c41
          have mm := my c41
          refine ev_aload_n dX6_fearBy_47 rfl ?_
          refine ev_getr 8 dX6_fearBy_48 rfl rfl flX6_28 iwX6 (by decide) rfl ?_
          refine ev_bipush dX6_fearBy_51 (by decide) ?_
          refine ev_iload_n dX6_fearBy_53 rfl ?_
          refine ev_imul dX6_fearBy_54 ?_
          refine ev_iload_n dX6_fearBy_55 rfl ?_
          refine ev_aload_n dX6_fearBy_56 rfl ?_
          refine ev_iload_n dX6_fearBy_57 rfl ?_
          refine ev_iconst dX6_fearBy_58 ?_
          refine ev_V1 (c_X6_likes (by omega)) okX6_likes dX6_fearBy_59 mlX6_70 rfl rfl ⟨by decide, by decide⟩ rfl (Nat.le_of_ble_eq_true rfl) ?_
          rw [e60]
          refine ev_S1 (c_X6_far (by omega) (by omega)) okX6_far dX6_fearBy_62 mlX6_87 ⟨by decide, by decide⟩ rfl (Nat.le_of_ble_eq_true rfl) ?_
          refine ev_iadd dX6_fearBy_65 ?_
          refine ev_iald dX6_fearBy_66 rfl (by omega) ?_
          rw [e53]
          refine ev_istore_n dX6_fearBy_67 (by decide) rfl ?_
          refine ev_aload_n dX6_fearBy_68 rfl ?_
          refine ev_iload_n dX6_fearBy_69 rfl ?_
          refine ev_iconst dX6_fearBy_70 ?_
          refine ev_V1 (c_X6_likes (by omega)) okX6_likes dX6_fearBy_71 mlX6_70 rfl rfl ⟨by decide, by decide⟩ rfl (Nat.le_of_ble_eq_true rfl) ?_
          rw [e61]
          refine ev_istore dX6_fearBy_74 (by decide) rfl ?_
          refine ev_aload_n dX6_fearBy_76 rfl ?_
          refine ev_getr 9 dX6_fearBy_77 rfl rfl flX6_31 iwX6 (by decide) rfl ?_
          refine ev_iload dX6_fearBy_80 rfl ?_
          refine ev_iload_n dX6_fearBy_82 rfl ?_
          refine ev_aload_n dX6_fearBy_83 rfl ?_
          refine ev_getr 9 dX6_fearBy_84 rfl rfl flX6_31 iwX6 (by decide) rfl ?_
          refine ev_iload dX6_fearBy_87 rfl ?_
          refine ev_iald dX6_fearBy_89 rfl (by omega) ?_
          rw [qm]
          refine ev_icmp_le (tgt := 97) dX6_fearBy_90 (by decide) (by omega) (by omega) (fun c90 => ?_) (fun c90 => ?_)
          · refine ev_aload_n dX6_fearBy_97 rfl ?_
            refine ev_getr 9 dX6_fearBy_98 rfl rfl flX6_31 iwX6 (by decide) rfl ?_
            refine ev_iload dX6_fearBy_101 rfl ?_
            refine ev_iald dX6_fearBy_103 rfl (by omega) ?_
            rw [qm]
            refine ev_iast dX6_fearBy_104 rfl (by omega) ?_
            exact fin c41 _ (by rw [mm]; omega) _ rfl rfl rfl
          · refine ev_iload_n dX6_fearBy_93 rfl ?_
            refine ev_goto (tgt := 104) dX6_fearBy_94 (by decide) ?_
            refine ev_iast dX6_fearBy_104 rfl (by omega) ?_
            exact fin c41 _ (by rw [mm]; omega) _ rfl rfl rfl
  have init : ∀ (m i : Nat) (τ : ev_M), i + m = ns → (∀ a : Nat, a ≠ 54 → τ a = σ a) → (∀ k : Int, 0 ≤ k ∧ k < i → τ 54 k = -1000) → Ev b mX6_fearBy 2 [(0, vR 46), (1, vI c), (2, vI i)] [] τ (fun r τ => r = some (vI (sm (fun k => if M k n = -1000 then 0 else M k n) ns)) ∧ ∀ a : Nat, a ≠ 54 → τ a = σ a) := by
    intro m
    induction m with
    | zero =>
      intro i τ h f1 f2
      have e3 : τ 47 0 = ns := by rw [f1 47 (by omega)]; exact hns
      refine ev_iload_n dX6_fearBy_2 rfl ?_
      refine ev_aload_n dX6_fearBy_3 rfl ?_
      refine ev_getr 0 dX6_fearBy_4 rfl rfl flX6_7 iwX6 (by decide) rfl ?_
      refine ev_iconst dX6_fearBy_7 ?_
      refine ev_iald dX6_fearBy_8 rfl (by omega) ?_
      refine ev_icmp_ge (tgt := 27) dX6_fearBy_9 (by decide) (by omega) (by omega) (fun c9 => ?_) (fun c9 => ?_)
      · refine ev_iconst dX6_fearBy_27 ?_
        refine ev_istore_n dX6_fearBy_28 (by decide) rfl ?_
        refine loop n 0 τ _ rfl rfl rfl (by omega) f1 (fun k hk => ?_)
        rw [f2 k (by omega), hMv]; rfl
      · exact absurd c9 (by omega)
    | succ m ih =>
      intro i τ h f1 f2
      have e3 : τ 47 0 = ns := by rw [f1 47 (by omega)]; exact hns
      refine ev_iload_n dX6_fearBy_2 rfl ?_
      refine ev_aload_n dX6_fearBy_3 rfl ?_
      refine ev_getr 0 dX6_fearBy_4 rfl rfl flX6_7 iwX6 (by decide) rfl ?_
      refine ev_iconst dX6_fearBy_7 ?_
      refine ev_iald dX6_fearBy_8 rfl (by omega) ?_
      refine ev_icmp_ge (tgt := 27) dX6_fearBy_9 (by decide) (by omega) (by omega) (fun c9 => ?_) (fun c9 => ?_)
      · exact absurd c9 (by omega)
      · refine ev_aload_n dX6_fearBy_12 rfl ?_
        refine ev_getr 9 dX6_fearBy_13 rfl rfl flX6_31 iwX6 (by decide) rfl ?_
        refine ev_iload_n dX6_fearBy_16 rfl ?_
        refine ev_sipush dX6_fearBy_17 (by decide) ?_
        refine ev_iast dX6_fearBy_20 rfl (by omega) ?_
        refine ev_iinc dX6_fearBy_21 rfl (by decide) rfl ?_
        refine ev_goto (tgt := 2) dX6_fearBy_24 (by decide) ?_
        refine ih (i + 1) _ (by omega) (fun a ha => by rw [mup_ne ha]; exact f1 a ha) (fun k hk => ?_)
        by_cases e : k = i
        · rw [e, mup_at]
        · rw [mup_off e]; exact f2 k (by omega)
  refine ev_iconst dX6_fearBy_0 ?_
  refine ev_istore_n dX6_fearBy_1 (by decide) rfl ?_
  exact init ns 0 σ (by omega) (fun a _ => rfl) (fun k hk => absurd hk (by omega))
theorem c_X6_fearsNow {b : ev_B} {σ : ev_M} (H : okP (wr (σ 47))) (ha : 0 ≤ σ 46 6 ∧ σ 46 6 < 256) : Cl b mX6_fearsNow [vR 46] σ (fun r τ => r = none ∧ (∀ c : Int, 0 ≤ c ∧ c < 48 → τ 52 c = fear (wr (σ 47)) (prA (σ 46 6)) c) ∧ ∀ a : Nat, a < 52 ∨ 54 < a → τ a = σ a) := by
  refine ev_enter okX6_fearsNow.1 (Nat.le_of_ble_eq_true rfl) ?_
  have h0 := okr0 H
  obtain ⟨n, hn, hn2⟩ := nn_ex h0.2.2.2.1
  have two : ∀ (m i : Nat) (τ : ev_M), i + m = 48 → (∀ a : Nat, a < 52 ∨ 54 < a → τ a = σ a) → (∀ q : Int, 0 ≤ q ∧ q < 13 * n → τ 53 q = scr (wr (σ 47)) (q / 13) (q % 13)) → (∀ c : Int, 0 ≤ c ∧ c < i → τ 52 c = fear (wr (σ 47)) (prA (σ 46 6)) c) → Ev b mX6_fearsNow 41 [(0, vR 46), (1, vI i)] [] τ (fun r τ => r = none ∧ (∀ c : Int, 0 ≤ c ∧ c < 48 → τ 52 c = fear (wr (σ 47)) (prA (σ 46 6)) c) ∧ ∀ a : Nat, a < 52 ∨ 54 < a → τ a = σ a) := by
    intro m
    induction m with
    | zero =>
      intro i τ h f1 f2 f3
      refine ev_iload_n dX6_fearsNow_41 rfl ?_
      refine ev_bipush dX6_fearsNow_42 (by decide) ?_
      refine ev_icmp_ge (tgt := 64) dX6_fearsNow_44 (by decide) (by omega) (by omega) (fun c44 => ?_) (fun c44 => ?_)
      · refine ev_vret dX6_fearsNow_64 rfl ?_
        exact ⟨rfl, fun c hc => f3 c (by omega), f1⟩
      · exact absurd c44 (by omega)
    | succ m ih =>
      intro i τ h f1 f2 f3
      have e47 := f1 47 (by omega)
      have e46 := f1 46 (by omega)
      have tv : ∀ l d : Int, 0 ≤ l ∧ l < n → 0 ≤ d ∧ d < 13 → tbR τ l d = scr (wr (σ 47)) l d := fun l d hl hd => by
        unfold tbR
        rw [f2 (13 * l + d) (by omega), show (13 * l + d) / 13 = l by omega, show (13 * l + d) % 13 = d by omega]
      have tb : ∀ l d : Int, 0 ≤ l ∧ l < τ 47 1 → 0 ≤ d ∧ d < 13 → -999 ≤ tbR τ l d ∧ tbR τ l d ≤ 1000 := fun l d hl hd => by
        rw [e47] at hl
        rw [tv l d (by omega) hd]
        have := scr_bd (l := l) (d := d) H hl hd.1
        omega
      have fe : fearT (wr (τ 47)) (prA (τ 46 6)) (tbR τ) (-1000) i = fear (wr (σ 47)) (prA (σ 46 6)) i := by
        rw [e47, e46, ← fear_R H (by omega)]
        refine fearT_congr (fun l hl => ?_)
        have hl2 : (l : Int) < n := by have e : (wr (σ 47) 0 8).toNat = n := hn2; omega
        have q := okrl H (l := l) (by omega)
        exact tv l _ (by omega) (sp_dist_bd q.1 (by omega))
      refine ev_iload_n dX6_fearsNow_41 rfl ?_
      refine ev_bipush dX6_fearsNow_42 (by decide) ?_
      refine ev_icmp_ge (tgt := 64) dX6_fearsNow_44 (by decide) (by omega) (by omega) (fun c44 => ?_) (fun c44 => ?_)
      · exact absurd c44 (by omega)
      · refine ev_aload_n dX6_fearsNow_47 rfl ?_
        refine ev_getr 7 dX6_fearsNow_48 rfl rfl flX6_25 iwX6 (by decide) rfl ?_
        refine ev_iload_n dX6_fearsNow_51 rfl ?_
        refine ev_aload_n dX6_fearsNow_52 rfl ?_
        refine ev_iload_n dX6_fearsNow_53 rfl ?_
        refine ev_callV (c_X6_fearBy (by rw [e47]; exact H) (by rw [e46]; exact ha) (by omega) tb) okX6_fearBy dX6_fearsNow_54 mlX6_152 rfl rfl ⟨by decide, by decide⟩ rfl (Nat.le_of_ble_eq_true rfl) (fun r54 τ54 h54 => ?_)
        obtain ⟨rfl, g1⟩ := h54
        rw [fe]
        refine ev_iast dX6_fearsNow_57 rfl (by omega) ?_
        refine ev_iinc dX6_fearsNow_58 rfl (by decide) rfl ?_
        refine ev_goto (tgt := 41) dX6_fearsNow_61 (by decide) ?_
        refine ih (i + 1) _ (by omega) (fun a hx => by rw [mup_ne (by omega), g1 a (by omega)]; exact f1 a hx) (fun q hq => by rw [mup_ne (by omega), g1 53 (by omega)]; exact f2 q hq) (fun c hc => ?_)
        by_cases e : c = i
        · rw [e, mup_at]
        · rw [mup_off e, g1 52 (by omega)]; exact f3 c (by omega)
  have one : ∀ (m i : Nat) (τ : ev_M), i + m = 13 * n → (∀ a : Nat, a ≠ 53 → τ a = σ a) → (∀ q : Int, 0 ≤ q ∧ q < i → τ 53 q = scr (wr (σ 47)) (q / 13) (q % 13)) → Ev b mX6_fearsNow 2 [(0, vR 46), (1, vI i)] [] τ (fun r τ => r = none ∧ (∀ c : Int, 0 ≤ c ∧ c < 48 → τ 52 c = fear (wr (σ 47)) (prA (σ 46 6)) c) ∧ ∀ a : Nat, a < 52 ∨ 54 < a → τ a = σ a) := by
    intro m
    induction m with
    | zero =>
      intro i τ h f1 f2
      have e1 : τ 47 1 = n := by rw [f1 47 (by omega)]; exact hn
      refine ev_iload_n dX6_fearsNow_2 rfl ?_
      refine ev_bipush dX6_fearsNow_3 (by decide) ?_
      refine ev_aload_n dX6_fearsNow_5 rfl ?_
      refine ev_getr 0 dX6_fearsNow_6 rfl rfl flX6_7 iwX6 (by decide) rfl ?_
      refine ev_iconst dX6_fearsNow_9 ?_
      refine ev_iald dX6_fearsNow_10 rfl (by omega) ?_
      refine ev_imul dX6_fearsNow_11 ?_
      refine ev_icmp_ge (tgt := 39) dX6_fearsNow_12 (by decide) (by omega) (by omega) (fun c12 => ?_) (fun c12 => ?_)
      · refine ev_iconst dX6_fearsNow_39 ?_
        refine ev_istore_n dX6_fearsNow_40 (by decide) rfl ?_
        exact two 48 0 τ (by omega) (fun a hx => f1 a (by omega)) (fun q hq => f2 q (by omega)) (fun c hc => absurd hc (by omega))
      · exact absurd c12 (by omega)
    | succ m ih =>
      intro i τ h f1 f2
      have e47 := f1 47 (by omega)
      have e1 : τ 47 1 = n := by rw [e47]; exact hn
      refine ev_iload_n dX6_fearsNow_2 rfl ?_
      refine ev_bipush dX6_fearsNow_3 (by decide) ?_
      refine ev_aload_n dX6_fearsNow_5 rfl ?_
      refine ev_getr 0 dX6_fearsNow_6 rfl rfl flX6_7 iwX6 (by decide) rfl ?_
      refine ev_iconst dX6_fearsNow_9 ?_
      refine ev_iald dX6_fearsNow_10 rfl (by omega) ?_
      refine ev_imul dX6_fearsNow_11 ?_
      refine ev_icmp_ge (tgt := 39) dX6_fearsNow_12 (by decide) (by omega) (by omega) (fun c12 => ?_) (fun c12 => ?_)
      · exact absurd c12 (by omega)
      · refine ev_aload_n dX6_fearsNow_15 rfl ?_
        refine ev_getr 8 dX6_fearsNow_16 rfl rfl flX6_28 iwX6 (by decide) rfl ?_
        refine ev_iload_n dX6_fearsNow_19 rfl ?_
        refine ev_aload_n dX6_fearsNow_20 rfl ?_
        refine ev_iload_n dX6_fearsNow_21 rfl ?_
        refine ev_bipush dX6_fearsNow_22 (by decide) ?_
        refine ev_idiv dX6_fearsNow_24 (by omega) (by omega) ?_
        refine ev_iload_n dX6_fearsNow_25 rfl ?_
        refine ev_bipush dX6_fearsNow_26 (by decide) ?_
        refine ev_irem dX6_fearsNow_28 (by omega) (by omega) ?_
        refine ev_V1 (c_X6_scared (by rw [e47]; exact H) (by omega) (by omega)) okX6_scared dX6_fearsNow_29 mlX6_90 rfl rfl ⟨by decide, by decide⟩ rfl (Nat.le_of_ble_eq_true rfl) ?_
        refine ev_iast dX6_fearsNow_32 rfl (by omega) ?_
        refine ev_iinc dX6_fearsNow_33 rfl (by decide) rfl ?_
        refine ev_goto (tgt := 2) dX6_fearsNow_36 (by decide) ?_
        rw [e47]
        refine ih (i + 1) _ (by omega) (fun a hx => by rw [mup_ne hx]; exact f1 a hx) (fun q hq => ?_)
        by_cases e : q = i
        · rw [e, mup_at]
        · rw [mup_off e]; exact f2 q (by omega)
  refine ev_iconst dX6_fearsNow_0 ?_
  refine ev_istore_n dX6_fearsNow_1 (by decide) rfl ?_
  exact one (13 * n) 0 σ (by omega) (fun a _ => rfl) (fun q hq => absurd hq (by omega))
