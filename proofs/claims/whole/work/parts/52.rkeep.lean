/-! the model's keep and worth -/
def lwb (s : Int) : Int := (Int32.ofInt s &&& Int32.ofInt (s - 1)).toInt
theorem lwb_all : ∀ s : Nat, s < 256 → 0 < s → (0 ≤ lwb s ∧ lwb s < s) ∧ pcnt (lwb s) + 1 = pcnt s := by decide +kernel
theorem c_X6_ones {b : ev_B} {σ : ev_M} {s : Int} (hs : 0 ≤ s ∧ s < 256) : CF b mX6_ones [vI s] σ (some (vI (pcnt s))) σ := by
  refine ev_enter okX6_ones.1 (Nat.le_of_ble_eq_true rfl) ?_
  have loop : ∀ (m : Nat) (n l : Int), 0 ≤ l ∧ l < 256 → l < m → Ev b mX6_ones 4 [(0, vI s), (1, vI n), (2, vI l)] [] σ (fun r τ => r = some (vI (n + pcnt l)) ∧ τ = σ) := by
    intro m
    induction m with
    | zero => intro n l h1 h2; exact absurd h2 (by omega)
    | succ m ih =>
      intro n l h1 h2
      obtain ⟨x, hx, -⟩ := nn_ex h1.1
      subst hx
      refine ev_iload_n dX6_ones_4 rfl ?_
      refine ev_if_eq (tgt := 20) dX6_ones_5 (by decide) (by omega) (fun c5 => ?_) (fun c5 => ?_)
      · refine ev_iload_n dX6_ones_20 rfl ?_
        refine ev_iret dX6_ones_21 rfl rfl ?_
        rw [c5]
        exact ⟨by rw [show pcnt 0 = 0 from rfl, Int.add_zero], rfl⟩
      · have q := lwb_all x (by omega) (by omega)
        refine ev_iinc dX6_ones_8 rfl (by decide) rfl ?_
        refine ev_iload_n dX6_ones_11 rfl ?_
        refine ev_iload_n dX6_ones_12 rfl ?_
        refine ev_iconst dX6_ones_13 ?_
        refine ev_isub dX6_ones_14 ?_
        refine ev_iand dX6_ones_15 (Int32.ofInt_toInt _).symm ?_
        refine ev_istore_n dX6_ones_16 (by decide) rfl ?_
        refine ev_goto (tgt := 4) dX6_ones_17 (by decide) ?_
        have l2 := ih (n + 1) (lwb x) (by omega) (by omega)
        rw [show n + 1 + pcnt (lwb x) = n + pcnt x by omega] at l2
        exact l2
  refine ev_iconst dX6_ones_0 ?_
  refine ev_istore_n dX6_ones_1 (by decide) rfl ?_
  refine ev_iload_n dX6_ones_2 rfl ?_
  refine ev_istore_n dX6_ones_3 (by decide) rfl ?_
  have l := loop 256 0 s hs (by omega)
  rw [Int.zero_add] at l
  exact l
theorem c_X6_eatenWithout {b : ev_B} {σ : ev_M} {s : Int} {n : Nat} (H : okP (wr (σ 47))) (ha : σ 46 6 = 0) (hs : 0 ≤ s ∧ s < 256) (hn : n < 1000) : Cl b mX6_eatenWithout [vR 46, vI s, vI n] σ (fun r τ => r = some (vI (eatN (wr (σ 47)) (prA s) n)) ∧ eqS (τ 47) (σ 47) ∧ frD σ τ) := by
  refine ev_enter okX6_eatenWithout.1 (Nat.le_of_ble_eq_true rfl) ?_
  refine ev_aload_n dX6_eatenWithout_0 rfl ?_
  refine ev_iload_n dX6_eatenWithout_1 rfl ?_
  refine ev_put (ty := .int) 6 6 dX6_eatenWithout_2 rfl rfl flX6_66 iwX6 tyX6_ok nmX6 (by decide) rfl rfl (by decide +kernel) rfl rfl rfl ?_
  generalize hω : mup σ 46 6 s = ω
  have w46 : ω 46 6 = s := by rw [← hω, mup_at]
  have wa : ∀ a : Nat, a ≠ 46 → ω a = σ a := fun a h => by rw [← hω, mup_ne h]
  have wo : ∀ i : Int, i ≠ 6 → ω 46 i = σ 46 i := fun i h => by rw [← hω, mup_off h]
  have w47 := wa 47 (by decide)
  refine ev_aload_n dX6_eatenWithout_5 rfl ?_
  refine ev_iload_n dX6_eatenWithout_6 rfl ?_
  refine ev_callV (c_X6_eatenOn (by rw [w47]; exact H) (by rw [w46]; exact hs) hn) okX6_eatenOn dX6_eatenWithout_7 mlX6_190 rfl rfl ⟨by decide, by decide⟩ rfl (Nat.le_of_ble_eq_true rfl) (fun r7 τ7 h7 => ?_)
  obtain ⟨rfl, g1, g2⟩ := h7
  rw [w46, w47]
  refine ev_istore_n dX6_eatenWithout_10 (by decide) rfl ?_
  refine ev_aload_n dX6_eatenWithout_11 rfl ?_
  refine ev_iconst dX6_eatenWithout_12 ?_
  refine ev_put (ty := .int) 6 6 dX6_eatenWithout_13 rfl rfl flX6_66 iwX6 tyX6_ok nmX6 (by decide) rfl rfl (by decide +kernel) rfl rfl rfl ?_
  refine ev_iload_n dX6_eatenWithout_16 rfl ?_
  refine ev_iret dX6_eatenWithout_17 rfl rfl ?_
  refine ⟨rfl, ?_, fun a x1 x2 x3 => ?_⟩
  · rw [mup_ne (by decide)]
    rw [w47] at g1
    exact g1
  · by_cases e : a = 46
    · subst e
      funext i
      by_cases e : i = 6
      · rw [e, mup_at, ha]
      · rw [mup_off e, g2 46 x1 x2 x3]; exact wo i e
    · rw [mup_ne e, g2 a x1 x2 x3]; exact wa a e
theorem xor_all : ∀ s : Nat, s < 256 → Int32.ofInt s ^^^ Int32.ofInt (-1) = Int32.ofInt (-1 - s) := by decide +kernel
theorem and_all : ∀ n : Nat, n < 9 → ∀ s : Nat, s < 256 → (s : Int) < pw n → Int32.ofInt (pw n - 1) &&& Int32.ofInt (-1 - s) = Int32.ofInt (pw n - 1 - s) := by decide +kernel
theorem not_all : ∀ n : Nat, n < 9 → ∀ s : Nat, s < 256 → (s : Int) < pw n → ∀ l : Nat, l < n → prA (pw n - 1 - s) l = bitp s l := by decide +kernel
theorem pcnt_all : ∀ n : Nat, n < 9 → pcnt (pw n - 1) = n := by decide +kernel
def KPi (g : Int → Prop) (all k : Int) (i : Int) : Prop := (k = all ∧ ∀ s : Int, 0 ≤ s ∧ s < i → ¬ g s) ∨ ((0 ≤ k ∧ k < i) ∧ g k ∧ ∀ s : Int, 0 ≤ s ∧ s < i → g s → pcnt k < pcnt s ∨ (pcnt k = pcnt s ∧ k ≤ s))
theorem c_X6_keep {b : ev_B} {σ : ev_M} {n : Int} (H : okP (wr (σ 47))) (ha : σ 46 6 = 0) (h1 : (-2147483648 ≤ n ∧ n < 2147483648)) : Cl b mX6_keep [vR 46, vI n] σ (fun r τ => if 1 ≤ n ∧ n ≤ 10 then (∃ k, KP (fun s => eatN (wr (σ 47)) (bitp s) n.toNat ≤ eatN (wr (σ 47)) allp n.toNat) (pw (σ 47 1) - 1) k ∧ RP σ (k, prj σ) r τ) else RP σ (-1000000001, fnd (prj σ) 0) r τ) := by
  refine ev_enter okX6_keep.1 (Nat.le_of_ble_eq_true rfl) ?_
  have h0 := okr0 H
  refine ev_iload_n dX6_keep_0 rfl ?_
  refine ev_i2l dX6_keep_1 (by omega) ?_
  refine ev_lconst (z := 1) dX6_keep_2 rfl ?_
  refine ev_ldc2 (z := 10) dX6_keep_3 klX6_200 (by decide) ?_
  refine ev_Sbne (tgt := 19) (c_X6_in (by omega) (by omega) (by omega)) okX6_in dX6_keep_6 mlX6_53 ⟨by decide, by decide⟩ rfl (Nat.le_of_ble_eq_true rfl) dX6_keep_9 (by decide) (fun c6 => ?_) (fun c6 => ?_)
  · obtain ⟨m, hm, hm2⟩ := nn_ex (x := n) (by omega)
    subst hm
    obtain ⟨nl, hnl, hnl2⟩ := nn_ex h0.2.2.2.1
    have pb := pw_bd nl (by omega)
    have pa := pcnt_all nl (by omega)
    generalize hA : pw nl - 1 = A at *
    have hAi : pw (σ 47 1) - 1 = A := by rw [hnl]; exact hA
    have eb := eatN_bd (pr := allp) H m
    generalize hE : eatN (wr (σ 47)) allp m = E at eb
    generalize hg : (fun s : Int => eatN (wr (σ 47)) (bitp s) m ≤ E) = g
    have hgv : ∀ s, g s ↔ eatN (wr (σ 47)) (bitp s) m ≤ E := fun s => by rw [← hg]
    have loop : ∀ (j i : Nat) (τ : ev_M) (k : Int) (ls : List (Nat × ev_V)), ev_lk ls 0 = some (vR 46) → ev_lk ls 1 = some (vI m) → ev_lk ls 2 = some (vI A) → ev_lk ls 3 = some (vI k) → ev_lk ls 4 = some (vI E) → ev_lk ls 5 = some (vI i) → (i : Int) + j = A → KPi g A k i → eqS (τ 47) (σ 47) → frD σ τ → Ev b mX6_keep 42 ls [] τ (fun r τ => if 1 ≤ (m : Int) ∧ (m : Int) ≤ 10 then (∃ k, KP (fun s => eatN (wr (σ 47)) (bitp s) ((m : Int)).toNat ≤ eatN (wr (σ 47)) allp ((m : Int)).toNat) (pw (σ 47 1) - 1) k ∧ RP σ (k, prj σ) r τ) else RP σ (-1000000001, fnd (prj σ) 0) r τ) := by
      intro j
      induction j with
      | zero =>
        intro i τ k ls l0 l1 l2 l3 l4 l5 h hk es fr
        refine Ev.lsub (ls' := [(0, vR 46), (1, vI m), (2, vI A), (3, vI k), (4, vI E), (5, vI i)]) (by simp [l0, l1, l2, l3, l4, l5]) ?_
        refine ev_iload dX6_keep_42 rfl ?_
        refine ev_iload_n dX6_keep_44 rfl ?_
        refine ev_icmp_ge (tgt := 89) dX6_keep_45 (by decide) (by omega) (by omega) (fun c45 => ?_) (fun c45 => ?_)
        · refine ev_iload_n dX6_keep_89 rfl ?_
          refine ev_iret dX6_keep_90 rfl rfl ?_
          rw [if_pos (by omega), hm2, hE, hAi]
          refine ⟨k, ?_, RP_D ha H fr es⟩
          have ei : (i : Int) = A := by omega
          rw [ei] at hk
          rw [hg]
          exact hk
        · exact absurd c45 (by omega)
      | succ j ih =>
        intro i τ k ls l0 l1 l2 l3 l4 l5 h hk es fr
        have kb : 0 ≤ k ∧ k < 256 := by rcases hk with ⟨z, _⟩ | ⟨z, _⟩ <;> omega
        refine Ev.lsub (ls' := [(0, vR 46), (1, vI m), (2, vI A), (3, vI k), (4, vI E), (5, vI i)]) (by simp [l0, l1, l2, l3, l4, l5]) ?_
        have a0 : τ 46 6 = 0 := by rw [fr 46 (by omega) (by omega) (by omega)]; exact ha
        have p1 := pcnt_bd (s := (i : Int)) (by omega)
        have p2 := pcnt_bd kb
        have lt := pcnt_lt nl (by omega) i (by omega) (by omega)
        have nx : ∀ (τ : ev_M) (k' : Int) (ls : List (Nat × ev_V)), KPi g A k' ((i + 1 : Nat) : Int) → eqS (τ 47) (σ 47) → frD σ τ → ev_lk ls 0 = some (vR 46) → ev_lk ls 1 = some (vI m) → ev_lk ls 2 = some (vI A) → ev_lk ls 4 = some (vI E) → ev_lk ls 5 = some (vI i) → Ev b mX6_keep 82 ls [vI k'] τ (fun r τ => if 1 ≤ (m : Int) ∧ (m : Int) ≤ 10 then (∃ k, KP (fun s => eatN (wr (σ 47)) (bitp s) ((m : Int)).toNat ≤ eatN (wr (σ 47)) allp ((m : Int)).toNat) (pw (σ 47 1) - 1) k ∧ RP σ (k, prj σ) r τ) else RP σ (-1000000001, fnd (prj σ) 0) r τ) := by
          intro τ k' ls hk' es fr l0 l1 l2 l4 l5
          refine Ev.lsub (ls' := [(0, vR 46), (1, vI m), (2, vI A), (4, vI E), (5, vI i)]) (by simp [l0, l1, l2, l4, l5]) ?_
          refine ev_istore_n dX6_keep_82 (by decide) rfl ?_
          refine ev_iinc dX6_keep_83 rfl (by decide) rfl ?_
          refine ev_goto (tgt := 42) dX6_keep_86 (by decide) ?_
          exact ih (i + 1) τ k' _ rfl rfl rfl rfl rfl rfl (by omega) hk' es fr
        have stay : ¬ (pcnt i < pcnt k ∧ g i) → KPi g A k ((i + 1 : Nat) : Int) := fun z => by
          rcases hk with ⟨z1, z2⟩ | ⟨z1, z2, z3⟩
          · refine Or.inl ⟨z1, fun s hs => ?_⟩
            by_cases e : s = i
            · rw [e]; intro gi; exact z ⟨by rw [z1, pa]; omega, gi⟩
            · exact z2 s (by omega)
          · refine Or.inr ⟨by omega, z2, fun s hs gs => ?_⟩
            by_cases e : s = i
            · subst e
              have : ¬ pcnt i < pcnt k := fun w => z ⟨w, gs⟩
              omega
            · exact z3 s (by omega) gs
        have move : pcnt i < pcnt k → g i → KPi g A i ((i + 1 : Nat) : Int) := fun w gi => by
          refine Or.inr ⟨by omega, gi, fun s hs gs => ?_⟩
          by_cases e : s = i
          · subst e; omega
          · rcases hk with ⟨z1, z2⟩ | ⟨z1, z2, z3⟩
            · exact absurd gs (z2 s (by omega))
            · have := z3 s (by omega) gs
              omega
        refine ev_iload dX6_keep_42 rfl ?_
        refine ev_iload_n dX6_keep_44 rfl ?_
        refine ev_icmp_ge (tgt := 89) dX6_keep_45 (by decide) (by omega) (by omega) (fun c45 => ?_) (fun c45 => ?_)
        · exact absurd c45 (by omega)
        · refine ev_iload dX6_keep_48 rfl ?_
          refine ev_S1 (c_X6_ones (by omega)) okX6_ones dX6_keep_50 mlX6_202 ⟨by decide, by decide⟩ rfl (Nat.le_of_ble_eq_true rfl) ?_
          refine ev_iload_n dX6_keep_53 rfl ?_
          refine ev_S1 (c_X6_ones kb) okX6_ones dX6_keep_54 mlX6_202 ⟨by decide, by decide⟩ rfl (Nat.le_of_ble_eq_true rfl) ?_
          refine ev_icmp_ge (tgt := 81) dX6_keep_57 (by decide) (by omega) (by omega) (fun c57 => ?_) (fun c57 => ?_)
          · refine ev_iload_n dX6_keep_81 rfl ?_
            exact nx τ k _ (stay (fun w => by omega)) es fr rfl rfl rfl rfl rfl
          · have an := and_all nl (by omega) i (by omega) (by omega)
            rw [hA] at an
            refine ev_aload_n dX6_keep_60 rfl ?_
            refine ev_iload_n dX6_keep_61 rfl ?_
            refine ev_iload dX6_keep_62 rfl ?_
            refine ev_iconst dX6_keep_64 ?_
            refine ev_ixor dX6_keep_65 (xor_all i (by omega)) ?_
            refine ev_iand dX6_keep_66 an ?_
            refine ev_iload_n dX6_keep_67 rfl ?_
            refine ev_callV (c_X6_eatenWithout (eqS_ok es H) a0 (by omega) (by omega)) okX6_eatenWithout dX6_keep_68 mlX6_205 rfl rfl ⟨by decide, by decide⟩ rfl (Nat.le_of_ble_eq_true rfl) (fun r68 τ68 h68 => ?_)
            obtain ⟨rfl, g1, g2⟩ := h68
            have ev : eatN (wr (τ 47)) (prA (A - i)) m = eatN (wr (σ 47)) (bitp i) m := by
              rw [eqP_eatP (eqS_wr es H) H]
              refine eatN_prc (fun l hl => ?_) m
              have el : (wr (σ 47) 0 8).toNat = nl := hnl2
              rw [el] at hl
              rw [← hA]
              exact not_all nl (by omega) i (by omega) (by omega) l hl
            rw [ev]
            have vb := eatN_bd (pr := bitp i) H m
            refine ev_iload dX6_keep_71 rfl ?_
            refine ev_icmp_gt (tgt := 81) dX6_keep_73 (by decide) (by omega) (by omega) (fun c73 => ?_) (fun c73 => ?_)
            · refine ev_iload_n dX6_keep_81 rfl ?_
              exact nx τ68 k _ (stay (fun w => by have := (hgv i).mp w.2; omega)) (eqS_tr g1 es) (frD_tr fr g2) rfl rfl rfl rfl rfl
            · refine ev_iload dX6_keep_76 rfl ?_
              refine ev_goto (tgt := 82) dX6_keep_78 (by decide) ?_
              exact nx τ68 i _ (move (by omega) ((hgv i).mpr (by omega))) (eqS_tr g1 es) (frD_tr fr g2) rfl rfl rfl rfl rfl
    refine ev_iconst dX6_keep_19 ?_
    refine ev_aload_n dX6_keep_20 rfl ?_
    refine ev_getr 0 dX6_keep_21 rfl rfl flX6_7 iwX6 (by decide) rfl ?_
    refine ev_iconst dX6_keep_24 ?_
    refine ev_iald dX6_keep_25 rfl (by omega) ?_
    refine ev_ishl dX6_keep_26 (bt_shl (by omega)) ?_
    refine ev_iconst dX6_keep_27 ?_
    refine ev_isub dX6_keep_28 ?_
    rw [hAi]
    refine ev_istore_n dX6_keep_29 (by decide) rfl ?_
    refine ev_iload_n dX6_keep_30 rfl ?_
    refine ev_istore_n dX6_keep_31 (by decide) rfl ?_
    refine ev_aload_n dX6_keep_32 rfl ?_
    refine ev_iload_n dX6_keep_33 rfl ?_
    refine ev_callV (c_X6_eatenOn (n := m) H (by omega) (by omega)) okX6_eatenOn dX6_keep_34 mlX6_190 rfl rfl ⟨by decide, by decide⟩ rfl (Nat.le_of_ble_eq_true rfl) (fun r34 τ34 h34 => ?_)
    obtain ⟨rfl, g1, g2⟩ := h34
    rw [ha, prA_0, hE]
    refine ev_istore dX6_keep_37 (by decide) rfl ?_
    refine ev_iconst dX6_keep_39 ?_
    refine ev_istore dX6_keep_40 (by decide) rfl ?_
    have lp := loop A.toNat 0 τ34 A [(0, vR 46), (1, vI m), (2, vI A), (3, vI A), (4, vI E), (5, vI 0)] rfl rfl rfl rfl rfl rfl (by omega) (Or.inl ⟨rfl, fun s hs => absurd hs (by omega)⟩) g1 g2
    rw [hAi] at lp
    exact lp
  · refine ev_aload_n dX6_keep_12 rfl ?_
    refine ev_ldc (z := -1000000001) dX6_keep_13 kcX6_50 (by decide) ?_
    refine ev_V1 (c_X6_finds (by omega)) okX6_finds dX6_keep_15 mlX6_101 rfl rfl ⟨by decide, by decide⟩ rfl (Nat.le_of_ble_eq_true rfl) ?_
    refine ev_iret dX6_keep_18 rfl rfl ?_
    rw [if_neg (by omega)]
    exact RP_fnd ha
theorem c_X6_worth {b : ev_B} {σ : ev_M} {n : Int} (H : okP (wr (σ 47))) (ha : σ 46 6 = 0) (h1 : (-2147483648 ≤ n ∧ n < 2147483648)) : Cl b mX6_worth [vR 46, vI n] σ (RP σ (sc_worth (prj σ) n)) := by
  refine ev_enter okX6_worth.1 (Nat.le_of_ble_eq_true rfl) ?_
  have h0 := okr0 H
  unfold sc_worth
  rw [prj_1]
  refine ev_iload_n dX6_worth_0 rfl ?_
  refine ev_Sbne (tgt := 14) (c_X6_isSoon (by omega)) okX6_isSoon dX6_worth_1 mlX6_193 ⟨by decide, by decide⟩ rfl (Nat.le_of_ble_eq_true rfl) dX6_worth_4 (by decide) (fun c1 => ?_) (fun c1 => ?_)
  · rw [if_pos (by omega)]
    obtain ⟨m, hm, hm2⟩ := nn_ex (x := n) (by omega)
    subst hm
    rw [hm2]
    obtain ⟨nl, hnl, hnl2⟩ := nn_ex h0.2.2.2.1
    obtain ⟨ns, hns, hns2⟩ := nn_ex h0.2.2.1.1
    have p13 : (prj σ 1 3).toNat = ns := hns2
    rw [p13]
    have pb := pw_bd nl (by omega)
    have eb := eatN_bd (pr := allp) H m
    generalize hE : eatN (wr (σ 47)) allp m = E at eb ⊢
    generalize hee : (fun k => eatN (wr (σ 47)) (notOf (wr (σ 47)) k) m) = e
    have heb : ∀ k, 0 ≤ e k ∧ e k ≤ 800 := by
      intro k
      have := eatN_bd (pr := notOf (wr (σ 47)) k) H m
      rw [← hee]
      simp only []
      omega
    generalize hR : RP σ (if amx e E ns < 0 then (-1000000004, fnd (prj σ) 3) else (amx e E ns, prj σ)) = R
    generalize hf : (fun (k : Int) (l : Int) => decide (σ 47 (76 + 3 * l + 1) = k)) = f
    have hfv : ∀ k l, f k l = decide (σ 47 (76 + 3 * l + 1) = k) := fun k l => by rw [← hf]
    have loop : ∀ (j k : Nat) (τ : ev_M) (mo : Int) (ls : List (Nat × ev_V)), ev_lk ls 0 = some (vR 46) → ev_lk ls 1 = some (vI m) → ev_lk ls 2 = some (vI (amx e E k)) → ev_lk ls 3 = some (vI mo) → ev_lk ls 4 = some (vI k) → k + j = ns → mo = (if amx e E k < 0 then E else e (amx e E k)) → eqS (τ 47) (σ 47) → frD σ τ → Ev b mX6_worth 25 ls [] τ R := by
      intro j
      induction j with
      | zero =>
        intro k τ mo ls l0 l1 l2 l3 l4 h hmo es fr
        refine Ev.lsub (ls' := [(0, vR 46), (1, vI m), (2, vI (amx e E k)), (3, vI mo), (4, vI k)]) (by simp [l0, l1, l2, l3, l4]) ?_
        have e3 : τ 47 0 = ns := by rw [es 0 (by omega)]; exact hns
        have ek : k = ns := by omega
        subst ek
        have ab := amx_bd e E k
        refine ev_iload dX6_worth_25 rfl ?_
        refine ev_aload_n dX6_worth_27 rfl ?_
        refine ev_getr 0 dX6_worth_28 rfl rfl flX6_7 iwX6 (by decide) rfl ?_
        refine ev_iconst dX6_worth_31 ?_
        refine ev_iald dX6_worth_32 rfl (by omega) ?_
        refine ev_icmp_ge (tgt := 125) dX6_worth_33 (by decide) (by omega) (by omega) (fun c33 => ?_) (fun c33 => ?_)
        · rw [← hR]
          refine ev_iload_n dX6_worth_125 rfl ?_
          refine ev_if_ge (tgt := 138) dX6_worth_126 (by decide) (by omega) (fun c126 => ?_) (fun c126 => ?_)
          · rw [if_neg (by omega)]
            refine ev_iload_n dX6_worth_138 rfl ?_
            refine ev_iret dX6_worth_139 rfl rfl ?_
            exact RP_D ha H fr es
          · rw [if_pos (by omega)]
            refine ev_aload_n dX6_worth_129 rfl ?_
            refine ev_ldc (z := -1000000004) dX6_worth_130 kcX6_162 (by decide) ?_
            refine ev_V1 (c_X6_finds (by omega)) okX6_finds dX6_worth_132 mlX6_101 rfl rfl ⟨by decide, by decide⟩ rfl (Nat.le_of_ble_eq_true rfl) ?_
            refine ev_goto (tgt := 139) dX6_worth_135 (by decide) ?_
            refine ev_iret dX6_worth_139 rfl rfl ?_
            exact RP_Df ha H fr es (by omega)
        · exact absurd c33 (by omega)
      | succ j ih =>
        intro k τ mo ls l0 l1 l2 l3 l4 h hmo es fr
        refine Ev.lsub (ls' := [(0, vR 46), (1, vI m), (2, vI (amx e E k)), (3, vI mo), (4, vI k)]) (by simp [l0, l1, l2, l3, l4]) ?_
        have e3 : τ 47 0 = ns := by rw [es 0 (by omega)]; exact hns
        have e1 : τ 47 1 = nl := by rw [es 1 (by omega)]; exact hnl
        have a0 : τ 46 6 = 0 := by rw [fr 46 (by omega) (by omega) (by omega)]; exact ha
        have mb : 0 ≤ mo ∧ mo ≤ 800 := by
          rw [hmo]
          split
          · omega
          · exact heb _
        have ab := amx_bd e E k
        have eS : amx e E (k + 1) = if mo < e k then (k : Int) else amx e E k := by rw [amx, ← hmo]
        have after : ∀ ls : List (Nat × ev_V), ev_lk ls 0 = some (vR 46) → ev_lk ls 1 = some (vI m) → ev_lk ls 2 = some (vI (amx e E k)) → ev_lk ls 3 = some (vI mo) → ev_lk ls 4 = some (vI k) → ev_lk ls 5 = some (vI (stf (f k) nl)) → Ev b mX6_worth 84 ls [] τ R := by
          intro ls l0 l1 l2 l3 l4 l5
          refine Ev.lsub (ls' := [(0, vR 46), (1, vI m), (2, vI (amx e E k)), (3, vI mo), (4, vI k), (5, vI (stf (f k) nl))]) (by simp [l0, l1, l2, l3, l4, l5]) ?_
          have sb := stf_bd (f k) nl
          refine ev_aload_n dX6_worth_84 rfl ?_
          refine ev_iload dX6_worth_85 rfl ?_
          refine ev_iload_n dX6_worth_87 rfl ?_
          refine ev_callV (c_X6_eatenWithout (eqS_ok es H) a0 (by omega) (by omega)) okX6_eatenWithout dX6_worth_88 mlX6_205 rfl rfl ⟨by decide, by decide⟩ rfl (Nat.le_of_ble_eq_true rfl) (fun r88 τ88 h88 => ?_)
          obtain ⟨rfl, g1, g2⟩ := h88
          have ev : eatN (wr (τ 47)) (prA (stf (f k) nl)) m = e k := by
            rw [eqP_eatP (eqS_wr es H) H, ← hee]
            refine eatN_prc (fun l hl => ?_) m
            have el : (wr (σ 47) 0 8).toNat = nl := hnl2
            rw [el] at hl
            unfold prA notOf
            rw [stf_bit (f k) hl, hfv]
            show decide ((if decide (σ 47 (76 + 3 * (l : Int) + 1) = k) = true then (1 : Int) else 0) = 0) = !decide (σ 47 (76 + 3 * (l : Int) + 1) = k)
            by_cases z : σ 47 (76 + 3 * (l : Int) + 1) = k
            · simp [z]
            · simp [z]
          rw [ev]
          have kb := heb k
          have es2 := eqS_tr g1 es
          have fr2 := frD_tr fr g2
          have nx : ∀ (x : Int) (ls : List (Nat × ev_V)), x = (if amx e E (k + 1) < 0 then E else e (amx e E (k + 1))) → ev_lk ls 0 = some (vR 46) → ev_lk ls 1 = some (vI m) → ev_lk ls 2 = some (vI (amx e E (k + 1))) → ev_lk ls 4 = some (vI k) → Ev b mX6_worth 118 ls [vI x] τ88 R := by
            intro x ls hx l0 l1 l2 l4
            refine Ev.lsub (ls' := [(0, vR 46), (1, vI m), (2, vI (amx e E (k + 1))), (4, vI k)]) (by simp [l0, l1, l2, l4]) ?_
            refine ev_istore_n dX6_worth_118 (by decide) rfl ?_
            refine ev_iinc dX6_worth_119 rfl (by decide) rfl ?_
            refine ev_goto (tgt := 25) dX6_worth_122 (by decide) ?_
            exact ih (k + 1) τ88 x _ rfl rfl rfl rfl rfl (by omega) hx es2 fr2
          refine ev_istore dX6_worth_91 (by decide) rfl ?_
          refine ev_iload dX6_worth_93 rfl ?_
          refine ev_iload_n dX6_worth_95 rfl ?_
          refine ev_icmp_le (tgt := 104) dX6_worth_96 (by decide) (by omega) (by omega) (fun c96 => ?_) (fun c96 => ?_)
          · have y : amx e E (k + 1) = amx e E k := by rw [eS, if_neg (by omega)]
            refine ev_iload_n dX6_worth_104 rfl ?_
            refine ev_istore_n dX6_worth_105 (by decide) rfl ?_
            refine ev_iload dX6_worth_106 rfl ?_
            refine ev_iload_n dX6_worth_108 rfl ?_
            refine ev_icmp_le (tgt := 117) dX6_worth_109 (by decide) (by omega) (by omega) (fun c109 => ?_) (fun c109 => ?_)
            · refine ev_iload_n dX6_worth_117 rfl ?_
              exact nx _ _ (by rw [y]; exact hmo) rfl rfl (by rw [y]; rfl) rfl
            · exact absurd c109 (by omega)
          · have y : amx e E (k + 1) = k := by rw [eS, if_pos (by omega)]
            refine ev_iload dX6_worth_99 rfl ?_
            refine ev_goto (tgt := 105) dX6_worth_101 (by decide) ?_
            refine ev_istore_n dX6_worth_105 (by decide) rfl ?_
            refine ev_iload dX6_worth_106 rfl ?_
            refine ev_iload_n dX6_worth_108 rfl ?_
            refine ev_icmp_le (tgt := 117) dX6_worth_109 (by decide) (by omega) (by omega) (fun c109 => ?_) (fun c109 => ?_)
            · exact absurd c109 (by omega)
            · refine ev_iload dX6_worth_112 rfl ?_
              refine ev_goto (tgt := 118) dX6_worth_114 (by decide) ?_
              exact nx _ _ (by rw [y, if_neg (by omega)]) rfl rfl (by rw [y]; rfl) rfl
        have inner : ∀ (q l : Nat) (ls : List (Nat × ev_V)), ev_lk ls 0 = some (vR 46) → ev_lk ls 1 = some (vI m) → ev_lk ls 2 = some (vI (amx e E k)) → ev_lk ls 3 = some (vI mo) → ev_lk ls 4 = some (vI k) → ev_lk ls 5 = some (vI (stf (f k) l)) → ev_lk ls 6 = some (vI l) → l + q = nl → Ev b mX6_worth 42 ls [] τ R := by
          intro q
          induction q with
          | zero =>
            intro l ls l0 l1 l2 l3 l4 l5 l6 hl
            refine Ev.lsub (ls' := [(0, vR 46), (1, vI m), (2, vI (amx e E k)), (3, vI mo), (4, vI k), (5, vI (stf (f k) l)), (6, vI l)]) (by simp [l0, l1, l2, l3, l4, l5, l6]) ?_
            have el : l = nl := by omega
            subst el
            refine ev_iload dX6_worth_42 rfl ?_
            refine ev_aload_n dX6_worth_44 rfl ?_
            refine ev_getr 0 dX6_worth_45 rfl rfl flX6_7 iwX6 (by decide) rfl ?_
            refine ev_iconst dX6_worth_48 ?_
            refine ev_iald dX6_worth_49 rfl (by omega) ?_
            refine ev_icmp_ge (tgt := 84) dX6_worth_50 (by decide) (by omega) (by omega) (fun c50 => ?_) (fun c50 => ?_)
            · exact after _ rfl rfl rfl rfl rfl rfl
            · exact absurd c50 (by omega)
          | succ q ihq =>
            intro l ls l0 l1 l2 l3 l4 l5 l6 hl
            refine Ev.lsub (ls' := [(0, vR 46), (1, vI m), (2, vI (amx e E k)), (3, vI mo), (4, vI k), (5, vI (stf (f k) l)), (6, vI l)]) (by simp [l0, l1, l2, l3, l4, l5, l6]) ?_
            have ql := okrl H (l := l) (by omega)
            have eo : τ 47 (76 + 3 * l + 1) = σ 47 (76 + 3 * l + 1) := es _ (by omega)
            have sb := stf_bd (f k) l
            refine ev_iload dX6_worth_42 rfl ?_
            refine ev_aload_n dX6_worth_44 rfl ?_
            refine ev_getr 0 dX6_worth_45 rfl rfl flX6_7 iwX6 (by decide) rfl ?_
            refine ev_iconst dX6_worth_48 ?_
            refine ev_iald dX6_worth_49 rfl (by omega) ?_
            refine ev_icmp_ge (tgt := 84) dX6_worth_50 (by decide) (by omega) (by omega) (fun c50 => ?_) (fun c50 => ?_)
            · exact absurd c50 (by omega)
            · refine ev_iload dX6_worth_53 rfl ?_
              refine ev_aload_n dX6_worth_55 rfl ?_
              refine ev_iload dX6_worth_56 rfl ?_
              refine ev_iconst dX6_worth_58 ?_
              refine ev_V1 (c_X6_likes (by omega)) okX6_likes dX6_worth_59 mlX6_70 rfl rfl ⟨by decide, by decide⟩ rfl (Nat.le_of_ble_eq_true rfl) ?_
              rw [eo]
              refine ev_iload dX6_worth_62 rfl ?_
              refine ev_icmp_ne (tgt := 74) dX6_worth_64 (by decide) (by omega) (by omega) (fun c64 => ?_) (fun c64 => ?_)
              · refine ev_iconst dX6_worth_74 ?_
                refine ev_ior dX6_worth_75 bt_or0 ?_
                refine ev_istore dX6_worth_76 (by decide) rfl ?_
                refine ev_iinc dX6_worth_78 rfl (by decide) rfl ?_
                refine ev_goto (tgt := 42) dX6_worth_81 (by decide) ?_
                have y : stf (f k) l = stf (f k) (l + 1) := by rw [stf_s2, if_neg (by rw [hfv, decide_eq_true_eq]; exact c64)]; omega
                rw [y]
                exact ihq (l + 1) _ rfl rfl rfl rfl rfl rfl rfl (by omega)
              · refine ev_iconst dX6_worth_67 ?_
                refine ev_iload dX6_worth_68 rfl ?_
                refine ev_ishl dX6_worth_70 (bt_shl (by omega)) ?_
                refine ev_goto (tgt := 75) dX6_worth_71 (by decide) ?_
                refine ev_ior dX6_worth_75 (bt_or (n := l) (by omega) (by omega)) ?_
                refine ev_istore dX6_worth_76 (by decide) rfl ?_
                refine ev_iinc dX6_worth_78 rfl (by decide) rfl ?_
                refine ev_goto (tgt := 42) dX6_worth_81 (by decide) ?_
                have y : stf (f k) l + pw l = stf (f k) (l + 1) := by rw [stf_s2, if_pos (by rw [hfv, decide_eq_true_eq]; exact c64)]
                rw [y]
                exact ihq (l + 1) _ rfl rfl rfl rfl rfl rfl rfl (by omega)
        refine ev_iload dX6_worth_25 rfl ?_
        refine ev_aload_n dX6_worth_27 rfl ?_
        refine ev_getr 0 dX6_worth_28 rfl rfl flX6_7 iwX6 (by decide) rfl ?_
        refine ev_iconst dX6_worth_31 ?_
        refine ev_iald dX6_worth_32 rfl (by omega) ?_
        refine ev_icmp_ge (tgt := 125) dX6_worth_33 (by decide) (by omega) (by omega) (fun c33 => ?_) (fun c33 => ?_)
        · exact absurd c33 (by omega)
        · refine ev_iconst dX6_worth_36 ?_
          refine ev_istore dX6_worth_37 (by decide) rfl ?_
          refine ev_iconst dX6_worth_39 ?_
          refine ev_istore dX6_worth_40 (by decide) rfl ?_
          exact inner nl 0 _ rfl rfl rfl rfl rfl rfl rfl (by omega)
    refine ev_iconst dX6_worth_14 ?_
    refine ev_istore_n dX6_worth_15 (by decide) rfl ?_
    refine ev_aload_n dX6_worth_16 rfl ?_
    refine ev_iload_n dX6_worth_17 rfl ?_
    refine ev_callV (c_X6_eatenOn (n := m) H (by omega) (by omega)) okX6_eatenOn dX6_worth_18 mlX6_190 rfl rfl ⟨by decide, by decide⟩ rfl (Nat.le_of_ble_eq_true rfl) (fun r18 τ18 h18 => ?_)
    obtain ⟨rfl, g1, g2⟩ := h18
    rw [ha, prA_0, hE]
    refine ev_istore_n dX6_worth_21 (by decide) rfl ?_
    refine ev_iconst dX6_worth_22 ?_
    refine ev_istore dX6_worth_23 (by decide) rfl ?_
    exact loop ns 0 _ _ _ rfl rfl rfl rfl rfl (by omega) rfl g1 g2
  · rw [if_neg (by omega)]
    refine ev_aload_n dX6_worth_7 rfl ?_
    refine ev_ldc (z := -1000000001) dX6_worth_8 kcX6_50 (by decide) ?_
    refine ev_V1 (c_X6_finds (by omega)) okX6_finds dX6_worth_10 mlX6_101 rfl rfl ⟨by decide, by decide⟩ rfl (Nat.le_of_ble_eq_true rfl) ?_
    refine ev_iret dX6_worth_13 rfl rfl ?_
    exact RP_fnd ha
