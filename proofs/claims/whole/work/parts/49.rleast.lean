/-! the model's best places, sitters, kinds, tempers -/
theorem eqS_ok {f g : Int → Int} (h : eqS f g) (H : okP (wr g)) : okP (wr f) := eqP_ok (eqS_wr h H) H
def eqX (K : Int) (f g : Int → Int) : Prop := ∀ i : Int, 0 ≤ i ∧ i < 100 → i ≠ K → f i = g i
theorem eqX_up {K v : Int} {f g : Int → Int} (h : eqX K f g) : eqS (upw f K v) (upw g K v) := fun i hi => by
  unfold upw
  by_cases e : i = K
  · rw [if_pos e, if_pos e]
  · rw [if_neg e, if_neg e, h i hi e]
theorem eqS_X {K v : Int} {f g : Int → Int} (h : eqS f (upw g K v)) : eqX K f g := fun i hi e => by rw [h i hi, upw_ne e]
theorem frD_m {σ τ : ev_M} {i v : Int} (h : frD σ τ) : frD σ (mup τ 47 i v) := fun a h1 h2 h3 => by rw [mup_ne h1]; exact h a h1 h2 h3
/-- a try at K -/
theorem c_try {b : ev_B} {σ τ : ev_M} {K v : Int} {n : Nat} (hn : n < 1000) (ha : σ 46 6 = 0) (Hv : okP (wr (upw (σ 47) K v))) (hx : eqX K (τ 47) (σ 47)) (hf : frD σ τ) : Cl b mX6_eatenOn [vR 46, vI n] (mup τ 47 K v) (fun r ω => r = some (vI (eatN (wr (upw (σ 47) K v)) allp n)) ∧ eqX K (ω 47) (σ 47) ∧ frD σ ω) := by
  have e46 : (mup τ 47 K v) 46 6 = 0 := by rw [mup_ne (by decide), hf 46 (by decide) (by decide) (by omega)]; exact ha
  have es : eqS ((mup τ 47 K v) 47) (upw (σ 47) K v) := by rw [mup_row]; exact eqX_up hx
  refine (c_X6_eatenOn (eqS_ok es Hv) (by rw [e46]; omega) hn).mono ?_
  rintro r ω ⟨rfl, g1, g2⟩
  rw [e46, prA_0, eqP_eatP (eqS_wr es Hv) Hv]
  exact ⟨rfl, eqS_X (eqS_tr g1 es), frD_tr (frD_m hf) g2⟩
theorem c_X6_leastBy {b : ev_B} {σ : ev_M} {K : Int} {M n : Nat} (hK : 0 ≤ K ∧ K < 100) (hM : M ≤ 48) (hn : n ≤ 20) (ha : σ 46 6 = 0) (Hv : ∀ v : Nat, v < M → okP (wr (upw (σ 47) K v))) : Cl b mX6_leastBy [vR 46, vI K, vI M, vI n] σ (fun r τ => r = some (vI (amn (fun v => eatN (wr (upw (σ 47) K v)) allp n) M)) ∧ eqS (τ 47) (σ 47) ∧ frD σ τ) := by
  refine ev_enter okX6_leastBy.1 (Nat.le_of_ble_eq_true rfl) ?_
  generalize hg : (fun v => eatN (wr (upw (σ 47) K v)) allp n) = g
  have hgv : ∀ v, eatN (wr (upw (σ 47) K v)) allp n = g v := fun v => by rw [← hg]
  have gb : ∀ v : Nat, v < M → 0 ≤ g v ∧ g v ≤ 800 := fun v hv => by
    rw [← hgv]
    have := eatN_bd (pr := allp) (Hv v hv) n
    omega
  have loop : ∀ (m v : Nat) (τ : ev_M) (ls : List (Nat × ev_V)), ev_lk ls 0 = some (vR 46) → ev_lk ls 1 = some (vI K) → ev_lk ls 2 = some (vI M) → ev_lk ls 3 = some (vI n) → ev_lk ls 4 = some (vI (σ 47 K)) → ev_lk ls 5 = some (vI (amn g v)) → ev_lk ls 6 = some (vI (if v = 0 then -1 else g (amn g v))) → ev_lk ls 7 = some (vI v) → v + m = M → eqX K (τ 47) (σ 47) → frD σ τ → Ev b mX6_leastBy 17 ls [] τ (fun r τ => r = some (vI (amn g M)) ∧ eqS (τ 47) (σ 47) ∧ frD σ τ) := by
    intro m
    induction m with
    | zero =>
      intro v τ ls l0 l1 l2 l3 l4 l5 l6 l7 h hx hf
      refine Ev.lsub (ls' := [(0, vR 46), (1, vI K), (2, vI M), (3, vI n), (4, vI (σ 47 K)), (5, vI (amn g v)), (7, vI v)]) (by simp [l0, l1, l2, l3, l4, l5, l7]) ?_
      refine ev_iload dX6_leastBy_17 rfl ?_
      refine ev_iload_n dX6_leastBy_19 rfl ?_
      refine ev_icmp_ge (tgt := 86) dX6_leastBy_20 (by decide) (by omega) (by omega) (fun c20 => ?_) (fun c20 => ?_)
      · refine ev_aload_n dX6_leastBy_86 rfl ?_
        refine ev_getr 0 dX6_leastBy_87 rfl rfl flX6_7 iwX6 (by decide) rfl ?_
        refine ev_iload_n dX6_leastBy_90 rfl ?_
        refine ev_iload dX6_leastBy_91 rfl ?_
        refine ev_iast dX6_leastBy_93 rfl (by omega) ?_
        refine ev_iload dX6_leastBy_94 rfl ?_
        refine ev_iret dX6_leastBy_96 rfl rfl ?_
        have e : v = M := by omega
        subst e
        refine ⟨rfl, fun i hi => ?_, frD_m hf⟩
        rw [mup_row]
        unfold upw
        by_cases e : i = K
        · rw [if_pos e, e]
        · rw [if_neg e]; exact hx i hi e
      · exact absurd c20 (by omega)
    | succ m ih =>
      intro v τ ls l0 l1 l2 l3 l4 l5 l6 l7 h hx hf
      have ab := amn_bd g v
      have lb : v ≠ 0 → 0 ≤ g (amn g v) ∧ g (amn g v) ≤ 800 := fun z => by
        obtain ⟨x, hx, -⟩ := nn_ex ab.1
        rw [hx]
        exact gb x (by omega)
      have vb := gb v (by omega)
      generalize hL : (if v = 0 then -1 else g (amn g v)) = L at l6
      have Lb : -1 ≤ L ∧ L ≤ 800 := by rw [← hL]; split <;> omega
      have yes : L < 0 ∨ g v < L → amn g (v + 1) = v := fun z => by
        rw [amn, if_pos]
        rw [← hL] at z
        by_cases e : v = 0
        · exact Or.inl e
        · rw [if_neg e] at z
          have := lb e
          exact Or.inr (by omega)
      have no : ¬ (L < 0 ∨ g v < L) → amn g (v + 1) = amn g v ∧ L = g (amn g v) := fun z => by
        rw [← hL] at z
        by_cases e : v = 0
        · rw [if_pos e] at z; omega
        · rw [if_neg e] at z hL
          exact ⟨by rw [amn, if_neg (by omega)], hL.symm⟩
      refine Ev.lsub (ls' := [(0, vR 46), (1, vI K), (2, vI M), (3, vI n), (4, vI (σ 47 K)), (5, vI (amn g v)), (6, vI L), (7, vI v)]) (by simp [l0, l1, l2, l3, l4, l5, l6, l7]) ?_
      refine ev_iload dX6_leastBy_17 rfl ?_
      refine ev_iload_n dX6_leastBy_19 rfl ?_
      refine ev_icmp_ge (tgt := 86) dX6_leastBy_20 (by decide) (by omega) (by omega) (fun c20 => ?_) (fun c20 => ?_)
      · exact absurd c20 (by omega)
      · refine ev_aload_n dX6_leastBy_23 rfl ?_
        refine ev_getr 0 dX6_leastBy_24 rfl rfl flX6_7 iwX6 (by decide) rfl ?_
        refine ev_iload_n dX6_leastBy_27 rfl ?_
        refine ev_iload dX6_leastBy_28 rfl ?_
        refine ev_iast dX6_leastBy_30 rfl (by omega) ?_
        refine ev_aload_n dX6_leastBy_31 rfl ?_
        refine ev_iload_n dX6_leastBy_32 rfl ?_
        refine ev_callV (c_try (by omega) ha (Hv v (by omega)) hx hf) okX6_eatenOn dX6_leastBy_33 mlX6_190 rfl rfl ⟨by decide, by decide⟩ rfl (Nat.le_of_ble_eq_true rfl) (fun r33 τ33 h33 => ?_)
        obtain ⟨rfl, g1, g2⟩ := h33
        rw [hgv]
        have nx : ∀ (x : Int) (ls : List (Nat × ev_V)), x = g (amn g (v + 1)) → ev_lk ls 0 = some (vR 46) → ev_lk ls 1 = some (vI K) → ev_lk ls 2 = some (vI M) → ev_lk ls 3 = some (vI n) → ev_lk ls 4 = some (vI (σ 47 K)) → ev_lk ls 5 = some (vI (amn g (v + 1))) → ev_lk ls 7 = some (vI v) → Ev b mX6_leastBy 78 ls [vI x] τ33 (fun r τ => r = some (vI (amn g M)) ∧ eqS (τ 47) (σ 47) ∧ frD σ τ) := by
          intro x ls hx l0 l1 l2 l3 l4 l5 l7
          refine Ev.lsub (ls' := [(0, vR 46), (1, vI K), (2, vI M), (3, vI n), (4, vI (σ 47 K)), (5, vI (amn g (v + 1))), (7, vI v)]) (by simp [l0, l1, l2, l3, l4, l5, l7]) ?_
          refine ev_istore dX6_leastBy_78 (by decide) rfl ?_
          refine ev_iinc dX6_leastBy_80 rfl (by decide) rfl ?_
          refine ev_goto (tgt := 17) dX6_leastBy_83 (by decide) ?_
          exact ih (v + 1) τ33 _ rfl rfl rfl rfl rfl rfl (by rw [if_neg (by omega), hx]; rfl) rfl (by omega) g1 g2
        have take : L < 0 ∨ g v < L → Ev b mX6_leastBy 57 [(0, vR 46), (1, vI K), (2, vI M), (3, vI n), (4, vI (σ 47 K)), (5, vI (amn g v)), (6, vI L), (7, vI v), (8, vI (g v))] [vI v] τ33 (fun r τ => r = some (vI (amn g M)) ∧ eqS (τ 47) (σ 47) ∧ frD σ τ) := by
          intro z
          have y := yes z
          refine ev_istore dX6_leastBy_57 (by decide) rfl ?_
          refine ev_iload dX6_leastBy_59 rfl ?_
          refine ev_if_lt (tgt := 71) dX6_leastBy_61 (by decide) (by omega) (fun c61 => ?_) (fun c61 => ?_)
          · refine ev_iload dX6_leastBy_71 rfl ?_
            refine ev_goto (tgt := 78) dX6_leastBy_73 (by decide) ?_
            exact nx _ _ (by rw [y]) rfl rfl rfl rfl rfl (by rw [y]; rfl) rfl
          · refine ev_iload dX6_leastBy_64 rfl ?_
            refine ev_iload dX6_leastBy_66 rfl ?_
            refine ev_icmp_ge (tgt := 76) dX6_leastBy_68 (by decide) (by omega) (by omega) (fun c68 => ?_) (fun c68 => ?_)
            · exact absurd z (by omega)
            · refine ev_iload dX6_leastBy_71 rfl ?_
              refine ev_goto (tgt := 78) dX6_leastBy_73 (by decide) ?_
              exact nx _ _ (by rw [y]) rfl rfl rfl rfl rfl (by rw [y]; rfl) rfl
        have leave : ¬ (L < 0 ∨ g v < L) → Ev b mX6_leastBy 57 [(0, vR 46), (1, vI K), (2, vI M), (3, vI n), (4, vI (σ 47 K)), (5, vI (amn g v)), (6, vI L), (7, vI v), (8, vI (g v))] [vI (amn g v)] τ33 (fun r τ => r = some (vI (amn g M)) ∧ eqS (τ 47) (σ 47) ∧ frD σ τ) := by
          intro z
          have y := no z
          refine ev_istore dX6_leastBy_57 (by decide) rfl ?_
          refine ev_iload dX6_leastBy_59 rfl ?_
          refine ev_if_lt (tgt := 71) dX6_leastBy_61 (by decide) (by omega) (fun c61 => ?_) (fun c61 => ?_)
          · exact absurd c61 (by omega)
          · refine ev_iload dX6_leastBy_64 rfl ?_
            refine ev_iload dX6_leastBy_66 rfl ?_
            refine ev_icmp_ge (tgt := 76) dX6_leastBy_68 (by decide) (by omega) (by omega) (fun c68 => ?_) (fun c68 => ?_)
            · refine ev_iload dX6_leastBy_76 rfl ?_
              exact nx _ _ (by rw [y.1, y.2]) rfl rfl rfl rfl rfl (by rw [y.1]; rfl) rfl
            · exact absurd c68 (by omega)
        refine ev_istore dX6_leastBy_36 (by decide) rfl ?_
        refine ev_iload dX6_leastBy_38 rfl ?_
        refine ev_if_lt (tgt := 50) dX6_leastBy_40 (by decide) (by omega) (fun c40 => ?_) (fun c40 => ?_)
        · refine ev_iload dX6_leastBy_50 rfl ?_
          refine ev_goto (tgt := 57) dX6_leastBy_52 (by decide) ?_
          exact take (Or.inl c40)
        · refine ev_iload dX6_leastBy_43 rfl ?_
          refine ev_iload dX6_leastBy_45 rfl ?_
          refine ev_icmp_ge (tgt := 55) dX6_leastBy_47 (by decide) (by omega) (by omega) (fun c47 => ?_) (fun c47 => ?_)
          · refine ev_iload dX6_leastBy_55 rfl ?_
            exact leave (by omega)
          · refine ev_iload dX6_leastBy_50 rfl ?_
            refine ev_goto (tgt := 57) dX6_leastBy_52 (by decide) ?_
            exact take (by omega)
  refine ev_aload_n dX6_leastBy_0 rfl ?_
  refine ev_getr 0 dX6_leastBy_1 rfl rfl flX6_7 iwX6 (by decide) rfl ?_
  refine ev_iload_n dX6_leastBy_4 rfl ?_
  refine ev_iald dX6_leastBy_5 rfl (by omega) ?_
  refine ev_istore dX6_leastBy_6 (by decide) rfl ?_
  refine ev_iconst dX6_leastBy_8 ?_
  refine ev_istore dX6_leastBy_9 (by decide) rfl ?_
  refine ev_iconst dX6_leastBy_11 ?_
  refine ev_istore dX6_leastBy_12 (by decide) rfl ?_
  refine ev_iconst dX6_leastBy_14 ?_
  refine ev_istore dX6_leastBy_15 (by decide) rfl ?_
  exact loop M 0 σ _ rfl rfl rfl rfl rfl rfl rfl rfl (by omega) (fun _ _ _ => rfl) frD_rf
theorem RP_le {σ τ : ev_M} {A : ev_M} {v v' : Int} (ha : σ 46 6 = 0) (H : okP (wr (σ 47))) (h2 : eqS (τ 47) (σ 47)) (h1 : frD σ τ) (e : v = v') (eA : A = prj σ) : RP σ (v', A) (some (vI v)) τ := by
  subst e eA
  exact RP_D ha H h1 h2
theorem okU {f : Int → Int} {j : Nat} {c v K : Int} (h : eqP (mup (wr f) j c v) (wr (upw f K v))) (H : okP (mup (wr f) j c v)) : okP (wr (upw f K v)) ∧ ∀ n, eatN (wr (upw f K v)) allp n = eatN (mup (wr f) j c v) allp n :=
  ⟨eqP_ok (eqP_symm h) H, fun n => eqP_eatP (eqP_symm h) H n⟩
theorem c_X6_spot {b : ev_B} {σ : ev_M} {l n : Int} (H : okP (wr (σ 47))) (ha : σ 46 6 = 0) (h1 : (-2147483648 ≤ l ∧ l < 2147483648)) (h2 : (-2147483648 ≤ n ∧ n < 2147483648)) : Cl b mX6_spot [vR 46, vI l, vI n] σ (RP σ (sc_spot (prj σ) l n)) := by
  refine ev_enter okX6_spot.1 (Nat.le_of_ble_eq_true rfl) ?_
  unfold sc_spot
  rw [prj_1]
  have h0 := okr0 H
  have p13 : prj σ 1 3 = σ 47 0 := rfl
  have p18 : prj σ 1 8 = σ 47 1 := rfl
  refine ev_aload_n dX6_spot_0 rfl ?_
  refine ev_iload_n dX6_spot_1 rfl ?_
  refine ev_Vbeq (tgt := 30) (c_X6_isLikeness (by omega) (by omega)) okX6_isLikeness dX6_spot_2 mlX6_143 rfl rfl ⟨by decide, by decide⟩ rfl (Nat.le_of_ble_eq_true rfl) dX6_spot_5 (by decide) (fun c2 => ?_) (fun c2 => ?_)
  · rw [if_neg (by omega)]
    refine ev_aload_n dX6_spot_30 rfl ?_
    refine ev_ldc (z := -1000000001) dX6_spot_31 kcX6_50 (by decide) ?_
    refine ev_V1 (c_X6_finds (by omega)) okX6_finds dX6_spot_33 mlX6_101 rfl rfl ⟨by decide, by decide⟩ rfl (Nat.le_of_ble_eq_true rfl) ?_
    refine ev_iret dX6_spot_36 rfl rfl ?_
    exact RP_fnd ha
  · refine ev_iload_n dX6_spot_8 rfl ?_
    refine ev_Sbeq (tgt := 30) (c_X6_isSoon (by omega)) okX6_isSoon dX6_spot_9 mlX6_193 ⟨by decide, by decide⟩ rfl (Nat.le_of_ble_eq_true rfl) dX6_spot_12 (by decide) (fun c9 => ?_) (fun c9 => ?_)
    · rw [if_neg (by omega)]
      refine ev_aload_n dX6_spot_30 rfl ?_
      refine ev_ldc (z := -1000000001) dX6_spot_31 kcX6_50 (by decide) ?_
      refine ev_V1 (c_X6_finds (by omega)) okX6_finds dX6_spot_33 mlX6_101 rfl rfl ⟨by decide, by decide⟩ rfl (Nat.le_of_ble_eq_true rfl) ?_
      refine ev_iret dX6_spot_36 rfl rfl ?_
      exact RP_fnd ha
    · rw [if_pos (by omega)]
      obtain ⟨k, hk, hk2⟩ := nn_ex (show 0 ≤ n by omega)
      subst hk
      have U : ∀ v : Nat, v < 48 → okP (wr (upw (σ 47) (76 + 3 * l + 0) v)) ∧ ∀ n, eatN (wr (upw (σ 47) (76 + 3 * l + 0) v)) allp n = eatN (mup (wr (σ 47)) 6 l v) allp n := fun v hv => okU (wr_up6 H (by omega)) (okP_mup6 H (by omega))
      refine ev_aload_n dX6_spot_15 rfl ?_
      refine ev_iload_n dX6_spot_16 rfl ?_
      refine ev_iconst dX6_spot_17 ?_
      refine ev_S1 c_X6_placeOf okX6_placeOf dX6_spot_18 mlX6_63 ⟨by decide, by decide⟩ rfl (Nat.le_of_ble_eq_true rfl) ?_
      refine ev_bipush dX6_spot_21 (by decide) ?_
      refine ev_iload_n dX6_spot_23 rfl ?_
      refine ev_callV (c_X6_leastBy (M := 48) (n := k) (by omega) (by omega) (by omega) ha (fun v hv => (U v (by omega)).1)) okX6_leastBy dX6_spot_24 mlX6_196 rfl rfl ⟨by decide, by decide⟩ rfl (Nat.le_of_ble_eq_true rfl) (fun r24 τ24 h24 => ?_)
      obtain ⟨rfl, g1, g2⟩ := h24
      refine ev_goto (tgt := 36) dX6_spot_27 (by decide) ?_
      refine ev_iret dX6_spot_36 rfl rfl ?_
      refine RP_le ha H g1 g2 ?_ rfl
      rw [hk2]
      exact amn_congr (fun i hi => (U i (by omega)).2 k)
theorem c_X6_whose {b : ev_B} {σ : ev_M} {l n : Int} (H : okP (wr (σ 47))) (ha : σ 46 6 = 0) (h1 : (-2147483648 ≤ l ∧ l < 2147483648)) (h2 : (-2147483648 ≤ n ∧ n < 2147483648)) : Cl b mX6_whose [vR 46, vI l, vI n] σ (RP σ (sc_whose (prj σ) l n)) := by
  refine ev_enter okX6_whose.1 (Nat.le_of_ble_eq_true rfl) ?_
  unfold sc_whose
  rw [prj_1]
  have h0 := okr0 H
  have p13 : prj σ 1 3 = σ 47 0 := rfl
  have p18 : prj σ 1 8 = σ 47 1 := rfl
  refine ev_aload_n dX6_whose_0 rfl ?_
  refine ev_iload_n dX6_whose_1 rfl ?_
  refine ev_Vbeq (tgt := 34) (c_X6_isLikeness (by omega) (by omega)) okX6_isLikeness dX6_whose_2 mlX6_143 rfl rfl ⟨by decide, by decide⟩ rfl (Nat.le_of_ble_eq_true rfl) dX6_whose_5 (by decide) (fun c2 => ?_) (fun c2 => ?_)
  · rw [if_neg (by omega)]
    refine ev_aload_n dX6_whose_34 rfl ?_
    refine ev_ldc (z := -1000000001) dX6_whose_35 kcX6_50 (by decide) ?_
    refine ev_V1 (c_X6_finds (by omega)) okX6_finds dX6_whose_37 mlX6_101 rfl rfl ⟨by decide, by decide⟩ rfl (Nat.le_of_ble_eq_true rfl) ?_
    refine ev_iret dX6_whose_40 rfl rfl ?_
    exact RP_fnd ha
  · refine ev_iload_n dX6_whose_8 rfl ?_
    refine ev_Sbeq (tgt := 34) (c_X6_isSoon (by omega)) okX6_isSoon dX6_whose_9 mlX6_193 ⟨by decide, by decide⟩ rfl (Nat.le_of_ble_eq_true rfl) dX6_whose_12 (by decide) (fun c9 => ?_) (fun c9 => ?_)
    · rw [if_neg (by omega)]
      refine ev_aload_n dX6_whose_34 rfl ?_
      refine ev_ldc (z := -1000000001) dX6_whose_35 kcX6_50 (by decide) ?_
      refine ev_V1 (c_X6_finds (by omega)) okX6_finds dX6_whose_37 mlX6_101 rfl rfl ⟨by decide, by decide⟩ rfl (Nat.le_of_ble_eq_true rfl) ?_
      refine ev_iret dX6_whose_40 rfl rfl ?_
      exact RP_fnd ha
    · rw [if_pos (by omega)]
      obtain ⟨k, hk, hk2⟩ := nn_ex (show 0 ≤ n by omega)
      subst hk
      have U : ∀ v : Nat, v < (σ 47 0).toNat → okP (wr (upw (σ 47) (76 + 3 * l + 1) v)) ∧ ∀ n, eatN (wr (upw (σ 47) (76 + 3 * l + 1) v)) allp n = eatN (mup (wr (σ 47)) 7 l v) allp n := fun v hv => okU (wr_up7 H (by omega)) (okP_mup7 H (by show 0 ≤ ((v : Nat) : Int) ∧ ((v : Nat) : Int) < σ 47 0; omega))
      obtain ⟨ns, hns, hns2⟩ := nn_ex h0.2.2.1.1
      rw [show (prj σ 1 3).toNat = ns from hns2]
      refine ev_aload_n dX6_whose_15 rfl ?_
      refine ev_iload_n dX6_whose_16 rfl ?_
      refine ev_iconst dX6_whose_17 ?_
      refine ev_S1 c_X6_placeOf okX6_placeOf dX6_whose_18 mlX6_63 ⟨by decide, by decide⟩ rfl (Nat.le_of_ble_eq_true rfl) ?_
      refine ev_aload_n dX6_whose_21 rfl ?_
      refine ev_getr 0 dX6_whose_22 rfl rfl flX6_7 iwX6 (by decide) rfl ?_
      refine ev_iconst dX6_whose_25 ?_
      refine ev_iald dX6_whose_26 rfl (by omega) ?_
      refine ev_iload_n dX6_whose_27 rfl ?_
      rw [hns]
      refine ev_callV (c_X6_leastBy (M := ns) (n := k) (by omega) (by omega) (by omega) ha (fun v hv => (U v (by omega)).1)) okX6_leastBy dX6_whose_28 mlX6_196 rfl rfl ⟨by decide, by decide⟩ rfl (Nat.le_of_ble_eq_true rfl) (fun r28 τ28 h28 => ?_)
      obtain ⟨rfl, g1, g2⟩ := h28
      refine ev_goto (tgt := 40) dX6_whose_31 (by decide) ?_
      refine ev_iret dX6_whose_40 rfl rfl ?_
      refine RP_le ha H g1 g2 ?_ rfl
      rw [hk2]
      exact amn_congr (fun i hi => (U i (by omega)).2 k)
theorem c_X6_kind {b : ev_B} {σ : ev_M} {s n : Int} (H : okP (wr (σ 47))) (ha : σ 46 6 = 0) (h1 : (-2147483648 ≤ s ∧ s < 2147483648)) (h2 : (-2147483648 ≤ n ∧ n < 2147483648)) : Cl b mX6_kind [vR 46, vI s, vI n] σ (RP σ (sc_kind (prj σ) s n)) := by
  refine ev_enter okX6_kind.1 (Nat.le_of_ble_eq_true rfl) ?_
  unfold sc_kind
  rw [prj_1]
  have h0 := okr0 H
  have p13 : prj σ 1 3 = σ 47 0 := rfl
  have p18 : prj σ 1 8 = σ 47 1 := rfl
  refine ev_aload_n dX6_kind_0 rfl ?_
  refine ev_iload_n dX6_kind_1 rfl ?_
  refine ev_Vbeq (tgt := 30) (c_X6_isSitter (by omega) (by omega)) okX6_isSitter dX6_kind_2 mlX6_125 rfl rfl ⟨by decide, by decide⟩ rfl (Nat.le_of_ble_eq_true rfl) dX6_kind_5 (by decide) (fun c2 => ?_) (fun c2 => ?_)
  · rw [if_neg (by omega)]
    refine ev_aload_n dX6_kind_30 rfl ?_
    refine ev_ldc (z := -1000000001) dX6_kind_31 kcX6_50 (by decide) ?_
    refine ev_V1 (c_X6_finds (by omega)) okX6_finds dX6_kind_33 mlX6_101 rfl rfl ⟨by decide, by decide⟩ rfl (Nat.le_of_ble_eq_true rfl) ?_
    refine ev_iret dX6_kind_36 rfl rfl ?_
    exact RP_fnd ha
  · refine ev_iload_n dX6_kind_8 rfl ?_
    refine ev_Sbeq (tgt := 30) (c_X6_isSoon (by omega)) okX6_isSoon dX6_kind_9 mlX6_193 ⟨by decide, by decide⟩ rfl (Nat.le_of_ble_eq_true rfl) dX6_kind_12 (by decide) (fun c9 => ?_) (fun c9 => ?_)
    · rw [if_neg (by omega)]
      refine ev_aload_n dX6_kind_30 rfl ?_
      refine ev_ldc (z := -1000000001) dX6_kind_31 kcX6_50 (by decide) ?_
      refine ev_V1 (c_X6_finds (by omega)) okX6_finds dX6_kind_33 mlX6_101 rfl rfl ⟨by decide, by decide⟩ rfl (Nat.le_of_ble_eq_true rfl) ?_
      refine ev_iret dX6_kind_36 rfl rfl ?_
      exact RP_fnd ha
    · rw [if_pos (by omega)]
      obtain ⟨k, hk, hk2⟩ := nn_ex (show 0 ≤ n by omega)
      subst hk
      have U : ∀ v : Nat, v < 6 → okP (wr (upw (σ 47) (52 + 4 * s + 0) v)) ∧ ∀ n, eatN (wr (upw (σ 47) (52 + 4 * s + 0) v)) allp n = eatN (mup (wr (σ 47)) 2 s v) allp n := fun v hv => okU (wr_up2 H (by omega)) (okP_mup2 H (by omega))
      refine ev_aload_n dX6_kind_15 rfl ?_
      refine ev_iload_n dX6_kind_16 rfl ?_
      refine ev_iconst dX6_kind_17 ?_
      refine ev_S1 c_X6_spotOf okX6_spotOf dX6_kind_18 mlX6_59 ⟨by decide, by decide⟩ rfl (Nat.le_of_ble_eq_true rfl) ?_
      refine ev_bipush dX6_kind_21 (by decide) ?_
      refine ev_iload_n dX6_kind_23 rfl ?_
      refine ev_callV (c_X6_leastBy (M := 6) (n := k) (by omega) (by omega) (by omega) ha (fun v hv => (U v (by omega)).1)) okX6_leastBy dX6_kind_24 mlX6_196 rfl rfl ⟨by decide, by decide⟩ rfl (Nat.le_of_ble_eq_true rfl) (fun r24 τ24 h24 => ?_)
      obtain ⟨rfl, g1, g2⟩ := h24
      refine ev_goto (tgt := 36) dX6_kind_27 (by decide) ?_
      refine ev_iret dX6_kind_36 rfl rfl ?_
      refine RP_le ha H g1 g2 ?_ rfl
      rw [hk2]
      exact amn_congr (fun i hi => (U i (by omega)).2 k)
theorem c_X6_temper {b : ev_B} {σ : ev_M} {s n : Int} (H : okP (wr (σ 47))) (ha : σ 46 6 = 0) (h1 : (-2147483648 ≤ s ∧ s < 2147483648)) (h2 : (-2147483648 ≤ n ∧ n < 2147483648)) : Cl b mX6_temper [vR 46, vI s, vI n] σ (RP σ (sc_temper (prj σ) s n)) := by
  refine ev_enter okX6_temper.1 (Nat.le_of_ble_eq_true rfl) ?_
  unfold sc_temper
  rw [prj_1]
  have h0 := okr0 H
  have p13 : prj σ 1 3 = σ 47 0 := rfl
  have p18 : prj σ 1 8 = σ 47 1 := rfl
  refine ev_aload_n dX6_temper_0 rfl ?_
  refine ev_iload_n dX6_temper_1 rfl ?_
  refine ev_Vbeq (tgt := 30) (c_X6_isSitter (by omega) (by omega)) okX6_isSitter dX6_temper_2 mlX6_125 rfl rfl ⟨by decide, by decide⟩ rfl (Nat.le_of_ble_eq_true rfl) dX6_temper_5 (by decide) (fun c2 => ?_) (fun c2 => ?_)
  · rw [if_neg (by omega)]
    refine ev_aload_n dX6_temper_30 rfl ?_
    refine ev_ldc (z := -1000000001) dX6_temper_31 kcX6_50 (by decide) ?_
    refine ev_V1 (c_X6_finds (by omega)) okX6_finds dX6_temper_33 mlX6_101 rfl rfl ⟨by decide, by decide⟩ rfl (Nat.le_of_ble_eq_true rfl) ?_
    refine ev_iret dX6_temper_36 rfl rfl ?_
    exact RP_fnd ha
  · refine ev_iload_n dX6_temper_8 rfl ?_
    refine ev_Sbeq (tgt := 30) (c_X6_isSoon (by omega)) okX6_isSoon dX6_temper_9 mlX6_193 ⟨by decide, by decide⟩ rfl (Nat.le_of_ble_eq_true rfl) dX6_temper_12 (by decide) (fun c9 => ?_) (fun c9 => ?_)
    · rw [if_neg (by omega)]
      refine ev_aload_n dX6_temper_30 rfl ?_
      refine ev_ldc (z := -1000000001) dX6_temper_31 kcX6_50 (by decide) ?_
      refine ev_V1 (c_X6_finds (by omega)) okX6_finds dX6_temper_33 mlX6_101 rfl rfl ⟨by decide, by decide⟩ rfl (Nat.le_of_ble_eq_true rfl) ?_
      refine ev_iret dX6_temper_36 rfl rfl ?_
      exact RP_fnd ha
    · rw [if_pos (by omega)]
      obtain ⟨k, hk, hk2⟩ := nn_ex (show 0 ≤ n by omega)
      subst hk
      have U : ∀ v : Nat, v < 31 → okP (wr (upw (σ 47) (52 + 4 * s + 1) v)) ∧ ∀ n, eatN (wr (upw (σ 47) (52 + 4 * s + 1) v)) allp n = eatN (mup (wr (σ 47)) 3 s v) allp n := fun v hv => okU (wr_up3 H (by omega)) (okP_mup3 H (by omega))
      refine ev_aload_n dX6_temper_15 rfl ?_
      refine ev_iload_n dX6_temper_16 rfl ?_
      refine ev_iconst dX6_temper_17 ?_
      refine ev_S1 c_X6_spotOf okX6_spotOf dX6_temper_18 mlX6_59 ⟨by decide, by decide⟩ rfl (Nat.le_of_ble_eq_true rfl) ?_
      refine ev_bipush dX6_temper_21 (by decide) ?_
      refine ev_iload_n dX6_temper_23 rfl ?_
      refine ev_callV (c_X6_leastBy (M := 31) (n := k) (by omega) (by omega) (by omega) ha (fun v hv => (U v (by omega)).1)) okX6_leastBy dX6_temper_24 mlX6_196 rfl rfl ⟨by decide, by decide⟩ rfl (Nat.le_of_ble_eq_true rfl) (fun r24 τ24 h24 => ?_)
      obtain ⟨rfl, g1, g2⟩ := h24
      refine ev_goto (tgt := 36) dX6_temper_27 (by decide) ?_
      refine ev_iret dX6_temper_36 rfl rfl ?_
      refine RP_le ha H g1 g2 ?_ rfl
      rw [hk2]
      exact amn_congr (fun i hi => (U i (by omega)).2 k)
