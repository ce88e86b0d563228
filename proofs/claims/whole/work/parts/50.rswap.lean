/-! the model's apart and swap -/
theorem upw_upw {f : Int → Int} {k v w : Int} : upw (upw f k v) k w = upw f k w := by
  funext i; unfold upw; by_cases e : i = k
  · rw [if_pos e, if_pos e]
  · rw [if_neg e, if_neg e, if_neg e]
theorem upw_id {f : Int → Int} {k : Int} : upw f k (f k) = f := by
  funext i; unfold upw; by_cases e : i = k
  · rw [if_pos e, e]
  · rw [if_neg e]
theorem srow_id {σ : ev_M} {a : Nat} : srow σ a (σ a) = σ := by
  funext x i; unfold srow; by_cases e : x = a
  · rw [if_pos e, e]
  · rw [if_neg e]
theorem c_X6_apart {b : ev_B} {σ : ev_M} {l : Int} (H : okP (wr (σ 47))) (ha : σ 46 6 = 0) (h1 : (-2147483648 ≤ l ∧ l < 2147483648)) : Cl b mX6_apart [vR 46, vI l] σ (RP σ (sc_apart (prj σ) l)) := by
  refine ev_enter okX6_apart.1 (Nat.le_of_ble_eq_true rfl) ?_
  unfold sc_apart
  rw [prj_1]
  have h0 := okr0 H
  have p18 : prj σ 1 8 = σ 47 1 := rfl
  refine ev_aload_n dX6_apart_0 rfl ?_
  refine ev_iload_n dX6_apart_1 rfl ?_
  refine ev_Vbne (tgt := 15) (c_X6_isLikeness (by omega) (by omega)) okX6_isLikeness dX6_apart_2 mlX6_143 rfl rfl ⟨by decide, by decide⟩ rfl (Nat.le_of_ble_eq_true rfl) dX6_apart_5 (by decide) (fun c2 => ?_) (fun c2 => ?_)
  · rw [if_pos (by omega)]
    have q := okrl H (l := l) (by omega)
    obtain ⟨nl, hnl, hnl2⟩ := nn_ex h0.2.2.2.1
    generalize hK : 76 + 3 * l + 0 = K
    have Kb : 76 ≤ K ∧ K < 100 := by omega
    generalize hf : σ 47 = f at *
    have U : ∀ c : Nat, c < 48 → okP (wr (upw f K c)) ∧ mts (wr (upw f K c)) allp (f (76 + 3 * l + 1)) nl = mts (mup (wr f) 6 l c) allp (f (76 + 3 * l + 1)) nl := fun c hc => by
      have e := wr_up6 (v := (c : Int)) H (c := l) (by omega)
      rw [hK] at e
      have H2 := okP_mup6 (l := l) (v := (c : Int)) H (by omega)
      refine ⟨eqP_ok (eqP_symm e) H2, eqP_mtsP (eqP_symm e) _ ?_⟩
      show (nl : Int) ≤ f 1
      omega
    generalize hG : apk (wr f) l = G
    have hGv : ∀ c : Nat, c < 48 → 100 * mts (wr (upw f K c)) allp (f (76 + 3 * l + 1)) nl + sp_dist c (f K) = G c := fun c hc => by
      rw [(U c hc).2, ← hG, sp_dist_comm, ← hK]
      unfold apk
      have e8 : (wr f 0 8).toNat = nl := hnl2
      rw [e8]
      rfl
    have Gb : ∀ c : Nat, c < 48 → 0 ≤ G c ∧ G c ≤ 6500 := fun c hc => by
      rw [← hGv c hc]
      have m := mts_nn (P := wr (upw f K c)) (pr := allp) (k := f (76 + 3 * l + 1)) (n := nl) (by omega)
      have d := sp_dist_bd (a := (c : Int)) (c := f K) (by omega) (by rw [← hK]; exact q.1)
      omega
    have loop : ∀ (m c : Nat) (x : Int) (ls : List (Nat × ev_V)), ev_lk ls 0 = some (vR 46) → ev_lk ls 1 = some (vI l) → ev_lk ls 2 = some (vI K) → ev_lk ls 3 = some (vI (f K)) → ev_lk ls 4 = some (vI (if c = 0 then -1 else amn G c)) → ev_lk ls 5 = some (vI (if c = 0 then 0 else G (amn G c))) → ev_lk ls 6 = some (vI c) → c + m = 48 → Ev b mX6_apart 37 ls [] (srow σ 47 (upw f K x)) (RP σ (amn G 48, prj σ)) := by
      intro m
      induction m with
      | zero =>
        intro c x ls l0 l1 l2 l3 l4 l5 l6 h
        have ec : c = 48 := by omega
        subst ec
        refine Ev.lsub (ls' := [(0, vR 46), (1, vI l), (2, vI K), (3, vI (f K)), (4, vI (amn G 48)), (6, vI 48)]) (by simp [l0, l1, l2, l3, l4, l6]) ?_
        refine ev_iload dX6_apart_37 rfl ?_
        refine ev_bipush dX6_apart_39 (by decide) ?_
        refine ev_icmp_ge (tgt := 117) dX6_apart_41 (by decide) (by omega) (by omega) (fun c41 => ?_) (fun c41 => ?_)
        · refine ev_aload_n dX6_apart_117 rfl ?_
          refine ev_getr 0 dX6_apart_118 rfl rfl flX6_7 iwX6 (by decide) rfl ?_
          refine ev_iload_n dX6_apart_121 rfl ?_
          refine ev_iload_n dX6_apart_122 rfl ?_
          refine ev_iast dX6_apart_123 rfl (by omega) ?_
          refine ev_iload dX6_apart_124 rfl ?_
          refine ev_iret dX6_apart_126 rfl rfl ?_
          rw [srow_up, upw_upw, upw_id, ← hf, srow_id]
          exact RP_id ha
        · exact absurd c41 (by omega)
      | succ m ih =>
        intro c x ls l0 l1 l2 l3 l4 l5 l6 h
        have ab := amn_bd G c
        generalize hB : (if c = 0 then -1 else amn G c) = B at l4
        generalize hL : (if c = 0 then 0 else G (amn G c)) = L at l5
        have Lb : 0 ≤ L ∧ L ≤ 6500 := by
          rw [← hL]
          split
          · omega
          · obtain ⟨y, hy, -⟩ := nn_ex ab.1
            rw [hy]
            exact Gb y (by omega)
        have Bb : -1 ≤ B ∧ B < c := by rw [← hB]; split <;> omega
        have gc := Gb c (by omega)
        have yes : B < 0 ∨ G c < L → amn G (c + 1) = c := fun z => by
          rw [amn, if_pos]
          rw [← hB, ← hL] at z
          by_cases e : c = 0
          · exact Or.inl e
          · rw [if_neg e, if_neg e] at z
            exact Or.inr (by omega)
        have no : ¬ (B < 0 ∨ G c < L) → amn G (c + 1) = B ∧ L = G B := fun z => by
          rw [← hB, ← hL] at z
          by_cases e : c = 0
          · rw [if_pos e, if_pos e] at z; omega
          · rw [if_neg e, if_neg e] at z
            rw [if_neg e] at hB hL
            exact ⟨by rw [amn, if_neg (by omega)]; exact hB, by rw [← hL, ← hB]⟩
        refine Ev.lsub (ls' := [(0, vR 46), (1, vI l), (2, vI K), (3, vI (f K)), (4, vI B), (5, vI L), (6, vI c)]) (by simp [l0, l1, l2, l3, l4, l5, l6]) ?_
        have nx : ∀ (y z : Int), y = amn G (c + 1) → z = G (amn G (c + 1)) → ∀ ls : List (Nat × ev_V), ev_lk ls 0 = some (vR 46) → ev_lk ls 1 = some (vI l) → ev_lk ls 2 = some (vI K) → ev_lk ls 3 = some (vI (f K)) → ev_lk ls 4 = some (vI y) → ev_lk ls 6 = some (vI c) → Ev b mX6_apart 109 ls [vI z] (srow σ 47 (upw f K c)) (RP σ (amn G 48, prj σ)) := by
          intro y z hy hz ls l0 l1 l2 l3 l4 l6
          refine Ev.lsub (ls' := [(0, vR 46), (1, vI l), (2, vI K), (3, vI (f K)), (4, vI y), (6, vI c)]) (by simp [l0, l1, l2, l3, l4, l6]) ?_
          refine ev_istore dX6_apart_109 (by decide) rfl ?_
          refine ev_iinc dX6_apart_111 rfl (by decide) rfl ?_
          refine ev_goto (tgt := 37) dX6_apart_114 (by decide) ?_
          exact ih (c + 1) c _ rfl rfl rfl rfl (by rw [if_neg (by omega), ← hy]; rfl) (by rw [if_neg (by omega), ← hz]; rfl) rfl (by omega)
        refine ev_iload dX6_apart_37 rfl ?_
        refine ev_bipush dX6_apart_39 (by decide) ?_
        refine ev_icmp_ge (tgt := 117) dX6_apart_41 (by decide) (by omega) (by omega) (fun c41 => ?_) (fun c41 => ?_)
        · exact absurd c41 (by omega)
        · refine ev_aload_n dX6_apart_44 rfl ?_
          refine ev_getr 0 dX6_apart_45 rfl rfl flX6_7 iwX6 (by decide) rfl ?_
          refine ev_iload_n dX6_apart_48 rfl ?_
          refine ev_iload dX6_apart_49 rfl ?_
          refine ev_iast dX6_apart_51 rfl (by omega) ?_
          rw [srow_up, upw_upw]
          generalize hω : srow σ 47 (upw f K c) = ω at nx ⊢
          have w47 : ω 47 = upw f K c := by rw [← hω, srow_at]
          have w46 : ω 46 6 = 0 := by rw [← hω, srow_ne (by decide)]; exact ha
          have eo : ω 47 (76 + 3 * l + 1) = f (76 + 3 * l + 1) := by rw [w47, upw_ne (by omega)]
          refine ev_bipush dX6_apart_52 (by decide) ?_
          refine ev_aload_n dX6_apart_54 rfl ?_
          refine ev_aload_n dX6_apart_55 rfl ?_
          refine ev_iload_n dX6_apart_56 rfl ?_
          refine ev_iconst dX6_apart_57 ?_
          refine ev_V1 (c_X6_likes (by omega)) okX6_likes dX6_apart_58 mlX6_70 rfl rfl ⟨by decide, by decide⟩ rfl (Nat.le_of_ble_eq_true rfl) ?_
          rw [eo]
          refine ev_V1 (c_X6_meets (by rw [w47]; exact (U c (by omega)).1) (by omega) (by omega)) okX6_meets dX6_apart_61 mlX6_131 rfl rfl ⟨by decide, by decide⟩ rfl (Nat.le_of_ble_eq_true rfl) ?_
          rw [w46, prA_0, w47, upw_ne (show (1 : Int) ≠ K by omega), hnl2]
          refine ev_imul dX6_apart_64 ?_
          refine ev_iload dX6_apart_65 rfl ?_
          refine ev_iload_n dX6_apart_67 rfl ?_
          refine ev_S1 (c_X6_far (by omega) (by rw [← hK]; exact q.1)) okX6_far dX6_apart_68 mlX6_87 ⟨by decide, by decide⟩ rfl (Nat.le_of_ble_eq_true rfl) ?_
          refine ev_iadd dX6_apart_71 ?_
          rw [hGv c (by omega)]
          refine ev_istore dX6_apart_72 (by decide) rfl ?_
          refine ev_iload dX6_apart_74 rfl ?_
          refine ev_if_lt (tgt := 86) dX6_apart_76 (by decide) (by omega) (fun c76 => ?_) (fun c76 => ?_)
          · have y := yes (Or.inl c76)
            refine ev_iload dX6_apart_86 rfl ?_
            refine ev_goto (tgt := 93) dX6_apart_88 (by decide) ?_
            refine ev_istore dX6_apart_93 (by decide) rfl ?_
            refine ev_iload dX6_apart_95 rfl ?_
            refine ev_iload dX6_apart_97 rfl ?_
            refine ev_icmp_ne (tgt := 107) dX6_apart_99 (by decide) (by omega) (by omega) (fun c99 => ?_) (fun c99 => ?_)
            · exact absurd rfl c99
            · refine ev_iload dX6_apart_102 rfl ?_
              refine ev_goto (tgt := 109) dX6_apart_104 (by decide) ?_
              exact nx _ _ y.symm (by rw [y]) _ rfl rfl rfl rfl rfl rfl
          · refine ev_iload dX6_apart_79 rfl ?_
            refine ev_iload dX6_apart_81 rfl ?_
            refine ev_icmp_ge (tgt := 91) dX6_apart_83 (by decide) (by omega) (by omega) (fun c83 => ?_) (fun c83 => ?_)
            · have y := no (by omega)
              refine ev_iload dX6_apart_91 rfl ?_
              refine ev_istore dX6_apart_93 (by decide) rfl ?_
              refine ev_iload dX6_apart_95 rfl ?_
              refine ev_iload dX6_apart_97 rfl ?_
              refine ev_icmp_ne (tgt := 107) dX6_apart_99 (by decide) (by omega) (by omega) (fun c99 => ?_) (fun c99 => ?_)
              · refine ev_iload dX6_apart_107 rfl ?_
                exact nx _ _ y.1.symm (by rw [y.1]; exact y.2) _ rfl rfl rfl rfl rfl rfl
              · exact absurd c99 (by omega)
            · have y := yes (by omega)
              refine ev_iload dX6_apart_86 rfl ?_
              refine ev_goto (tgt := 93) dX6_apart_88 (by decide) ?_
              refine ev_istore dX6_apart_93 (by decide) rfl ?_
              refine ev_iload dX6_apart_95 rfl ?_
              refine ev_iload dX6_apart_97 rfl ?_
              refine ev_icmp_ne (tgt := 107) dX6_apart_99 (by decide) (by omega) (by omega) (fun c99 => ?_) (fun c99 => ?_)
              · exact absurd rfl c99
              · refine ev_iload dX6_apart_102 rfl ?_
                refine ev_goto (tgt := 109) dX6_apart_104 (by decide) ?_
                exact nx _ _ y.symm (by rw [y]) _ rfl rfl rfl rfl rfl rfl
    refine ev_iload_n dX6_apart_15 rfl ?_
    refine ev_iconst dX6_apart_16 ?_
    refine ev_S1 c_X6_placeOf okX6_placeOf dX6_apart_17 mlX6_63 ⟨by decide, by decide⟩ rfl (Nat.le_of_ble_eq_true rfl) ?_
    rw [hK]
    refine ev_istore_n dX6_apart_20 (by decide) rfl ?_
    refine ev_aload_n dX6_apart_21 rfl ?_
    refine ev_getr 0 dX6_apart_22 rfl rfl flX6_7 iwX6 (by decide) rfl ?_
    refine ev_iload_n dX6_apart_25 rfl ?_
    refine ev_iald dX6_apart_26 rfl (by omega) ?_
    rw [hf]
    refine ev_istore_n dX6_apart_27 (by decide) rfl ?_
    refine ev_iconst dX6_apart_28 ?_
    refine ev_istore dX6_apart_29 (by decide) rfl ?_
    refine ev_iconst dX6_apart_31 ?_
    refine ev_istore dX6_apart_32 (by decide) rfl ?_
    refine ev_iconst dX6_apart_34 ?_
    refine ev_istore dX6_apart_35 (by decide) rfl ?_
    have lp := loop 48 0 (f K) [(0, vR 46), (1, vI l), (2, vI K), (3, vI (f K)), (4, vI (-1)), (5, vI 0), (6, vI 0)] rfl rfl rfl rfl rfl rfl rfl (by omega)
    rw [upw_id, ← hf, srow_id] at lp
    rw [← hf]
    exact lp
  · rw [if_neg (by omega)]
    refine ev_aload_n dX6_apart_8 rfl ?_
    refine ev_ldc (z := -1000000001) dX6_apart_9 kcX6_50 (by decide) ?_
    refine ev_V1 (c_X6_finds (by omega)) okX6_finds dX6_apart_11 mlX6_101 rfl rfl ⟨by decide, by decide⟩ rfl (Nat.le_of_ble_eq_true rfl) ?_
    refine ev_iret dX6_apart_14 rfl rfl ?_
    exact RP_fnd ha
