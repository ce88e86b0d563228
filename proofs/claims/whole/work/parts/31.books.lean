/-! books -/
def WT (P : ev_M) : Int := sm (P 1) 48
theorem sm_upw {w : Int → Int} {c v : Int} : ∀ {n : Nat}, 0 ≤ c ∧ c < n → sm (upw w c v) n = sm w n - w c + v
  | 0, h => absurd h (by omega)
  | n + 1, h => by
    show sm (upw w c v) n + upw w c v n = sm w n + w n - w c + v
    by_cases e : c = n
    · subst e
      have z : sm (upw w n v) n = sm w n := sm_congr (fun i hi => by unfold upw; rw [if_neg (by omega)])
      rw [z]
      unfold upw
      rw [if_pos rfl]
      omega
    · rw [sm_upw (by omega)]
      unfold upw
      rw [if_neg (fun q => e q.symm)]
      omega
theorem eatc_sum {f w : Int → Int} : ∀ k : Nat, sm (eatc f w k).1 48 = sm w 48 - (eatc f w k).2
  | 0 => by simp [eatc]
  | k + 1 => by
    have ih := eatc_sum (f := f) (w := w) k
    have hb := lnd_bd (eatc f w k).1 f 48
    unfold eatc
    split
    · exact ih
    · rw [sm_upw (by omega), ih]
      simp only []
      omega
theorem WT_day {P : ev_M} {pr : Int → Bool} : WT (dayM P pr) = WT P - dayE P pr := eatc_sum _
theorem WT_bd {P : ev_M} (H : okP P) : 0 ≤ WT P ∧ WT P ≤ 4752 := by
  have h := sm_bd (f := P 1) (lo := 0) (hi := 99) (n := 48) (fun i hi => H.2.2.2.2.1 i (by omega))
  unfold WT
  omega
theorem eqP_WT {P P' : ev_M} (h : eqP P' P) : WT P' = WT P := sm_congr (fun i hi => h.2.2.2.2.1 i (by omega))
/-- the sheet's numbers are the wheat of so many days -/
def gsB (P : ev_M) (f : Int → Int) : Nat → Bool
  | 0 => true
  | n + 1 => gsB P f n && decide (f n = WT (dayN P allp n))
theorem gsB_no {P : ev_M} {f : Int → Int} {i : Nat} (h : ¬ f i = WT (dayN P allp i)) : ∀ {n : Nat}, i < n → gsB P f n = false
  | 0, hn => absurd hn (Nat.not_lt_zero _)
  | n + 1, hn => by
    unfold gsB
    rcases Nat.lt_or_ge i n with q | q
    · rw [gsB_no h q]; rfl
    · have e : i = n := by omega
      subst e
      simp [h]
theorem gsB_eq {P P' : ev_M} {f f' : Int → Int} (h : eqP P' P) (H : okP P) : ∀ {n : Nat}, (∀ i : Nat, i < n → f' i = f i) → gsB P' f' n = gsB P f n
  | 0, _ => rfl
  | n + 1, hf => by
    unfold gsB
    rw [gsB_eq h H (fun i hi => hf i (by omega)), hf n (by omega), eqP_WT (eqP_dayN h H n)]
theorem c_X5_trialGoesAs {b : ev_B} {σ : ev_M} {q : Nat} (hq : isS q) (HS : okS σ) (H : okP (wn σ 19)) : Cl b mX5_trialGoesAs [vR 0, vR q] σ (fun r τ => r = some (vI (if gsB (wn σ 19) (σ (q + 1)) (σ q 2).toNat = true then 1 else 0)) ∧ sameC σ τ) := by
  refine ev_enter okX5_trialGoesAs.1 (Nat.le_of_ble_eq_true rfl) ?_
  obtain ⟨s1, s2, s3⟩ := HS q hq
  have hqb : 37 ≤ q := by rcases hq with rfl | rfl | rfl | rfl <;> omega
  obtain ⟨n, hn, hn2⟩ := nn_ex s2.1
  rw [hn2]
  have loop : ∀ (m i : Nat) (τ : ev_M) (ls : List (Nat × ev_V)), ev_lk ls 0 = some (vR 0) → ev_lk ls 1 = some (vR q) → ev_lk ls 2 = some (vI (WT (dayN (wn σ 19) allp i))) → ev_lk ls 3 = some (vI i) → i + m = n → wn τ 19 = dayN (wn σ 19) allp i → FO τ 19 → sameC σ τ → gsB (wn σ 19) (σ (q + 1)) i = true → Ev b mX5_trialGoesAs 21 ls [] τ (fun r τ => r = some (vI (if gsB (wn σ 19) (σ (q + 1)) n = true then 1 else 0)) ∧ sameC σ τ) := by
    intro m
    induction m with
    | zero =>
      intro i τ ls l0 l1 l2 l3 h ew fo sc hg
      refine Ev.lsub (ls' := [(0, vR 0), (1, vR q), (2, vI (WT (dayN (wn σ 19) allp i))), (3, vI i)]) (by simp [l0, l1, l2, l3]) ?_
      have e2 : τ q 2 = σ q 2 := by rw [sc q (by omega)]
      refine ev_iload_n dX5_trialGoesAs_21 rfl ?_
      refine ev_aload_n dX5_trialGoesAs_22 rfl ?_
      refine ev_geti 2 2 dX5_trialGoesAs_23 (sk0 hq) rfl flX5_215 iwX3 (by decide) rfl rfl ?_
      refine ev_icmp_ge (tgt := 63) dX5_trialGoesAs_26 (by decide) (by omega) (by omega) (fun c26 => ?_) (fun c26 => ?_)
      · refine ev_iconst dX5_trialGoesAs_63 ?_
        refine ev_iret dX5_trialGoesAs_64 rfl (by first | rfl | exact ev_nb) ?_
        have e : i = n := by omega
        subst e
        rw [if_pos hg]
        exact ⟨rfl, sc⟩
      · exact absurd c26 (by omega)
    | succ m ih =>
      intro i τ ls l0 l1 l2 l3 h ew fo sc hg
      refine Ev.lsub (ls' := [(0, vR 0), (1, vR q), (2, vI (WT (dayN (wn σ 19) allp i))), (3, vI i)]) (by simp [l0, l1, l2, l3]) ?_
      have e2 : τ q 2 = σ q 2 := by rw [sc q (by omega)]
      have e1 : τ (q + 1) i = σ (q + 1) i := by rw [sc (q + 1) (by omega)]
      have nb := s3 i (by omega)
      have Hd := okP_dayN (pr := allp) H i
      have wb := WT_bd Hd
      refine ev_iload_n dX5_trialGoesAs_21 rfl ?_
      refine ev_aload_n dX5_trialGoesAs_22 rfl ?_
      refine ev_geti 2 2 dX5_trialGoesAs_23 (sk0 hq) rfl flX5_215 iwX3 (by decide) rfl rfl ?_
      refine ev_icmp_ge (tgt := 63) dX5_trialGoesAs_26 (by decide) (by omega) (by omega) (fun c26 => ?_) (fun c26 => ?_)
      · exact absurd c26 (by omega)
      · refine ev_aload_n dX5_trialGoesAs_29 rfl ?_
        refine ev_getr 0 dX5_trialGoesAs_30 (sk0 hq) rfl flX5_222 iwX3 (by decide) rfl ?_
        refine ev_iload_n dX5_trialGoesAs_33 rfl ?_
        refine ev_lald dX5_trialGoesAs_34 (sk1 hq) (by omega) ?_
        rw [e1]
        refine ev_iload_n dX5_trialGoesAs_35 rfl ?_
        refine ev_i2l dX5_trialGoesAs_36 (by omega) ?_
        refine ev_lc_eq (tgt := 43) dX5_trialGoesAs_37 dX5_trialGoesAs_38 (by decide) (by omega) (by omega) (fun c37 => ?_) (fun c37 => ?_)
        · refine ev_iload_n dX5_trialGoesAs_43 rfl ?_
          refine ev_aload_n dX5_trialGoesAs_44 rfl ?_
          refine ev_getr 3 dX5_trialGoesAs_45 rfl rfl flX5_25 iwX5 (by decide) rfl ?_
          refine ev_aload_n dX5_trialGoesAs_48 rfl ?_
          refine ev_getr 2 dX5_trialGoesAs_49 rfl rfl flX5_19 iwX5 (by decide) rfl ?_
          refine ev_callV (c_X0_passDay hP19 (by rw [ew]; exact Hd) fo) okX0_passDay dX5_trialGoesAs_52 mlX5_177 rfl rfl ⟨by decide, by decide⟩ rfl (Nat.le_of_ble_eq_true rfl) (fun r52 τ52 h52 => ?_)
          obtain ⟨rfl, g1, g2, g3⟩ := h52
          rw [ew]
          refine ev_isub dX5_trialGoesAs_55 ?_
          refine ev_istore_n dX5_trialGoesAs_56 (by decide) rfl ?_
          refine ev_iinc dX5_trialGoesAs_57 rfl (by decide) rfl ?_
          refine ev_goto (tgt := 21) dX5_trialGoesAs_60 (by decide) ?_
          refine ih (i + 1) τ52 _ rfl rfl ?_ rfl (by omega) (by rw [g1, ew]; rfl) g2 (fun a ha => by rw [g3 a (by omega) (by omega)]; exact sc a ha) ?_
          · show some (vI _) = some (vI (WT (dayM (dayN (wn σ 19) allp i) allp)))
            rw [WT_day]
          · unfold gsB
            rw [hg, c37]
            simp
        · refine ev_iconst dX5_trialGoesAs_41 ?_
          refine ev_iret dX5_trialGoesAs_42 rfl (by first | rfl | exact ev_nb) ?_
          rw [gsB_no c37 (n := n) (by omega)]
          exact ⟨rfl, sc⟩
  refine ev_aload_n dX5_trialGoesAs_0 rfl ?_
  refine ev_getr 3 dX5_trialGoesAs_1 rfl rfl flX5_25 iwX5 (by decide) rfl ?_
  refine ev_aload_n dX5_trialGoesAs_4 rfl ?_
  refine ev_getr 2 dX5_trialGoesAs_5 rfl rfl flX5_19 iwX5 (by decide) rfl ?_
  refine ev_callV (c_X0_look hP19 H) okX0_look dX5_trialGoesAs_8 mlX5_62 rfl rfl ⟨by decide, by decide⟩ rfl (Nat.le_of_ble_eq_true rfl) (fun r8 τ8 h8 => ?_)
  obtain ⟨rfl, k1, k2, k3⟩ := h8
  have ew : wn τ8 19 = wn σ 19 := wn_congr (fun j hj => k3 (19 + j) (by omega))
  have e20 : τ8 (19 + 1) = σ (19 + 1) := k3 (19 + 1) (by omega)
  refine ev_aload_n dX5_trialGoesAs_11 rfl ?_
  refine ev_getr 2 dX5_trialGoesAs_12 rfl rfl flX5_19 iwX5 (by decide) rfl ?_
  refine ev_V1 (c_X2_wheatOfAll hP19) okX2_wheatOfAll dX5_trialGoesAs_15 mlX5_158 rfl rfl ⟨by decide, by decide⟩ rfl (Nat.le_of_ble_eq_true rfl) ?_
  rw [e20]
  refine ev_istore_n dX5_trialGoesAs_18 (by decide) rfl ?_
  refine ev_iconst dX5_trialGoesAs_19 ?_
  refine ev_istore_n dX5_trialGoesAs_20 (by decide) rfl ?_
  exact loop n 0 τ8 _ rfl rfl rfl rfl (by omega) ew k1 (fun a ha => k3 a (by omega)) rfl
def rdS (P : ev_M) (f : Int → Int) (n : Nat) (l : Int) (o c : Int) : Int := if gsB (mup (mup P 7 l o) 6 l c) f n = true then 1 else 0
def sc_read (σ : ev_M) (s l : Int) : Int × ev_M := if ¬ (0 ≤ s ∧ s ≤ 3) then (-1000000001, fnd σ 0) else if σ (ev_rt s.toNat) 1 = 0 then (-1000000006, fnd σ 5) else if ¬ (0 ≤ l ∧ l ≤ σ 1 8 - 1) then (-1000000001, fnd σ 0) else (sm (fun o => sm (fun c => rdS (wn σ 1) (σ (ev_rt s.toNat + 1)) (σ (ev_rt s.toNat) 2).toNat l o c) 48) (σ 1 3).toNat, σ)
theorem c_X5_read {b : ev_B} {σ : ev_M} {s l : Int} (H : okP (wn σ 1)) (HS : okS σ) (h1 : (-2147483648 ≤ s ∧ s < 2147483648)) (h2 : (-2147483648 ≤ l ∧ l < 2147483648)) : Cl b mX5_read [vR 0, vI s, vI l] σ (fun r τ => r = some (vI (sc_read σ s l).1) ∧ sameC (sc_read σ s l).2 τ) := by
  refine ev_enter okX5_read.1 (Nat.le_of_ble_eq_true rfl) ?_
  unfold sc_read
  have h0 := ok0 H
  refine ev_iload_n dX5_read_0 rfl ?_
  refine ev_Sbne (tgt := 13) (c_X5_isSheet (by omega)) okX5_isSheet dX5_read_1 mlX5_208 ⟨by decide, by decide⟩ rfl (Nat.le_of_ble_eq_true rfl) dX5_read_4 (by decide) (fun c1 => ?_) (fun c1 => ?_)
  · rw [if_neg (by omega)]
    have hq := isS_rt c1
    generalize hqe : ev_rt s.toNat = q at hq ⊢
    obtain ⟨s1, s2, s3⟩ := HS q hq
    have hqb : 37 ≤ q := by rcases hq with rfl | rfl | rfl | rfl <;> omega
    refine ev_aload_n dX5_read_13 rfl ?_
    refine ev_getr 5 dX5_read_14 rfl rfl flX5_38 iwX5 (by decide) rfl ?_
    refine ev_iload_n dX5_read_17 rfl ?_
    refine ev_aald dX5_read_18 rfl (by omega) ?_
    rw [hqe]
    refine ev_Vbeq (tgt := 31) (c_X3_isMissing hq (by omega)) okX3_isMissing dX5_read_19 mlX5_218 (sk0 hq) rfl ⟨by decide, by decide⟩ rfl (Nat.le_of_ble_eq_true rfl) dX5_read_22 (by decide) (fun c19 => ?_) (fun c19 => ?_)
    · rw [if_neg (by omega)]
      refine ev_aload_n dX5_read_31 rfl ?_
      refine ev_iload_n dX5_read_32 rfl ?_
      refine ev_Vbne (tgt := 45) (c_X5_isLikeness (by omega) (by omega)) okX5_isLikeness dX5_read_33 mlX5_128 rfl rfl ⟨by decide, by decide⟩ rfl (Nat.le_of_ble_eq_true rfl) dX5_read_36 (by decide) (fun c33 => ?_) (fun c33 => ?_)
      · rw [if_neg (by omega)]
        obtain ⟨ns, hns, hns2⟩ := nn_ex h0.2.2.1.1
        rw [hns2]
        generalize hg : (fun o c => rdS (wn σ 1) (σ (q + 1)) (σ q 2).toNat l o c) = g
        have hgv : ∀ o c, g o c = rdS (wn σ 1) (σ (q + 1)) (σ q 2).toNat l o c := fun o c => by rw [← hg]
        simp only [← hgv]
        have inner : ∀ (o : Nat) (S : Int), o < ns → (∀ (τ : ev_M) (ls : List (Nat × ev_V)), ev_lk ls 0 = some (vR 0) → ev_lk ls 1 = some (vI s) → ev_lk ls 2 = some (vI l) → ev_lk ls 3 = some (vI (S + sm (fun c => g o c) 48)) → ev_lk ls 4 = some (vI o) → sameC σ τ → Ev b mX5_read 127 ls [] τ (fun r τ => r = some (vI (sm (fun o => sm (fun c => g o c) 48) ns)) ∧ sameC σ τ)) → ∀ (k c : Nat) (τ : ev_M) (ls : List (Nat × ev_V)), ev_lk ls 0 = some (vR 0) → ev_lk ls 1 = some (vI s) → ev_lk ls 2 = some (vI l) → ev_lk ls 3 = some (vI (S + sm (fun c => g o c) c)) → ev_lk ls 4 = some (vI o) → ev_lk ls 5 = some (vI c) → c + k = 48 → sameC σ τ → Ev b mX5_read 65 ls [] τ (fun r τ => r = some (vI (sm (fun o => sm (fun c => g o c) 48) ns)) ∧ sameC σ τ) := by
          intro o S ho K k
          induction k with
          | zero =>
            intro c τ ls l0 l1 l2 l3 l4 l5 hc sc
            refine Ev.lsub (ls' := [(0, vR 0), (1, vI s), (2, vI l), (3, vI (S + sm (fun c => g o c) c)), (4, vI o), (5, vI c)]) (by simp [l0, l1, l2, l3, l4, l5]) ?_
            have ec : c = 48 := by omega
            subst ec
            refine ev_iload dX5_read_65 rfl ?_
            refine ev_bipush dX5_read_67 (by decide) ?_
            refine ev_icmp_ge (tgt := 127) dX5_read_69 (by decide) (by omega) (by omega) (fun c69 => ?_) (fun c69 => ?_)
            · exact K τ _ rfl rfl rfl rfl rfl sc
            · exact absurd c69 (by omega)
          | succ k ih =>
            intro c τ ls l0 l1 l2 l3 l4 l5 hc sc
            refine Ev.lsub (ls' := [(0, vR 0), (1, vI s), (2, vI l), (3, vI (S + sm (fun c => g o c) c)), (4, vI o), (5, vI c)]) (by simp [l0, l1, l2, l3, l4, l5]) ?_
            have ew1 : wn τ 1 = wn σ 1 := wn_congr (fun x hx => sc (1 + x) (by omega))
            have Hh : okP (wn τ 1) := by rw [ew1]; exact H
            have nx : ∀ (v : Int) (τ : ev_M) (ls : List (Nat × ev_V)), v = g o c → ev_lk ls 0 = some (vR 0) → ev_lk ls 1 = some (vI s) → ev_lk ls 2 = some (vI l) → ev_lk ls 3 = some (vI (S + sm (fun c => g o c) c + v)) → ev_lk ls 4 = some (vI o) → ev_lk ls 5 = some (vI c) → sameC σ τ → Ev b mX5_read 121 ls [] τ (fun r τ => r = some (vI (sm (fun o => sm (fun c => g o c) 48) ns)) ∧ sameC σ τ) := by
              intro v τ ls hv l0 l1 l2 l3 l4 l5 sc
              refine Ev.lsub (ls' := [(0, vR 0), (1, vI s), (2, vI l), (3, vI (S + sm (fun c => g o c) c + v)), (4, vI o), (5, vI c)]) (by simp [l0, l1, l2, l3, l4, l5]) ?_
              refine ev_iinc dX5_read_121 rfl (by decide) rfl ?_
              refine ev_goto (tgt := 65) dX5_read_124 (by decide) ?_
              refine ih (c + 1) τ _ rfl rfl rfl ?_ rfl rfl (by omega) sc
              show some (vI _) = some (vI _)
              rw [sm, hv]
              congr 2
              omega
            refine ev_iload dX5_read_65 rfl ?_
            refine ev_bipush dX5_read_67 (by decide) ?_
            refine ev_icmp_ge (tgt := 127) dX5_read_69 (by decide) (by omega) (by omega) (fun c69 => ?_) (fun c69 => ?_)
            · exact absurd c69 (by omega)
            · refine ev_aload_n dX5_read_72 rfl ?_
              refine ev_getr 2 dX5_read_73 rfl rfl flX5_19 iwX5 (by decide) rfl ?_
              refine ev_aload_n dX5_read_76 rfl ?_
              refine ev_getr 0 dX5_read_77 rfl rfl flX5_10 iwX5 (by decide) rfl ?_
              refine ev_callV (c_X2_become hP19 hP1 (by decide) Hh) okX2_become dX5_read_80 mlX5_174 rfl rfl ⟨by decide, by decide⟩ rfl (Nat.le_of_ble_eq_true rfl) (fun r80 τ80 h80 => ?_)
              obtain ⟨rfl, g1, g2⟩ := h80
              rw [ew1] at g1
              refine ev_aload_n dX5_read_83 rfl ?_
              refine ev_getr 2 dX5_read_84 rfl rfl flX5_19 iwX5 (by decide) rfl ?_
              refine ev_getr 10 dX5_read_87 rfl rfl flX5_134 iwX2 (by decide) rfl ?_
              refine ev_iload_n dX5_read_90 rfl ?_
              refine ev_iload dX5_read_91 rfl ?_
              refine ev_iast dX5_read_93 rfl (by omega) ?_
              refine ev_aload_n dX5_read_94 rfl ?_
              refine ev_getr 2 dX5_read_95 rfl rfl flX5_19 iwX5 (by decide) rfl ?_
              refine ev_getr 9 dX5_read_98 rfl rfl flX5_131 iwX2 (by decide) rfl ?_
              refine ev_iload_n dX5_read_101 rfl ?_
              refine ev_iload dX5_read_102 rfl ?_
              refine ev_iast dX5_read_104 rfl (by omega) ?_
              generalize hω : mup (mup τ80 26 l o) 25 l c = ω
              have g3 : eqP (wn ω 19) (mup (mup (wn σ 1) 7 l o) 6 l c) := by
                rw [← hω]
                show eqP (wn (mup (mup τ80 (19 + 7) l o) (19 + 6) l c) 19) _
                rw [wn_mup (by omega), wn_mup (by omega)]
                exact eqP_mup (eqP_mup g1 (by omega)) (by omega)
              have Hk : okP (mup (mup (wn σ 1) 7 l o) 6 l c) := okP_mup6 (okP_mup7 H (by show 0 ≤ (o : Int) ∧ (o : Int) < σ 1 3; omega)) (by omega)
              have scω : sameC σ ω := fun a ha => by rw [← hω, fr1 (by omega), fr1 (by omega), g2 a (by omega)]; exact sc a ha
              have HSω : okS ω := fun q' hq' => by
                have hb : 37 ≤ q' := by rcases hq' with rfl | rfl | rfl | rfl <;> omega
                rw [scω q' (by omega), scω (q' + 1) (by omega)]
                exact HS q' hq'
              have eg : (if gsB (wn ω 19) (ω (q + 1)) (ω q 2).toNat = true then (1 : Int) else 0) = g o c := by
                rw [hgv]
                unfold rdS
                rw [gsB_eq g3 Hk (f := σ (q + 1)) (fun i _ => by rw [scω (q + 1) (by omega)]), scω q (by omega)]
              refine ev_aload_n dX5_read_105 rfl ?_
              refine ev_aload_n dX5_read_106 rfl ?_
              refine ev_getr 5 dX5_read_107 rfl rfl flX5_38 iwX5 (by decide) rfl ?_
              refine ev_iload_n dX5_read_110 rfl ?_
              refine ev_aald dX5_read_111 rfl (by omega) ?_
              rw [hqe]
              refine ev_callV (c_X5_trialGoesAs hq HSω (eqP_ok g3 Hk)) okX5_trialGoesAs dX5_read_112 mlX5_244 rfl rfl ⟨by decide, by decide⟩ rfl (Nat.le_of_ble_eq_true rfl) (fun r112 τ112 h112 => ?_)
              obtain ⟨rfl, sc3⟩ := h112
              rw [eg]
              have gb : g o c = 0 ∨ g o c = 1 := by
                rw [hgv]; unfold rdS
                split
                · exact Or.inr rfl
                · exact Or.inl rfl
              have sc4 : sameC σ τ112 := fun a ha => by rw [sc3 a ha]; exact scω a ha
              refine ev_if_eq (tgt := 121) dX5_read_115 (by decide) (by omega) (fun c115 => ?_) (fun c115 => ?_)
              · exact nx 0 τ112 _ c115.symm rfl rfl rfl (by rw [Int.add_zero]; rfl) rfl rfl sc4
              · refine ev_iinc dX5_read_118 rfl (by decide) rfl ?_
                exact nx 1 τ112 _ (by omega) rfl rfl rfl rfl rfl rfl sc4
        have outer : ∀ (k o : Nat) (τ : ev_M) (ls : List (Nat × ev_V)), ev_lk ls 0 = some (vR 0) → ev_lk ls 1 = some (vI s) → ev_lk ls 2 = some (vI l) → ev_lk ls 3 = some (vI (sm (fun o => sm (fun c => g o c) 48) o)) → ev_lk ls 4 = some (vI o) → o + k = ns → sameC σ τ → Ev b mX5_read 50 ls [] τ (fun r τ => r = some (vI (sm (fun o => sm (fun c => g o c) 48) ns)) ∧ sameC σ τ) := by
          intro k
          induction k with
          | zero =>
            intro o τ ls l0 l1 l2 l3 l4 ho sc
            refine Ev.lsub (ls' := [(0, vR 0), (1, vI s), (2, vI l), (3, vI (sm (fun o => sm (fun c => g o c) 48) o)), (4, vI o)]) (by simp [l0, l1, l2, l3, l4]) ?_
            have e3 : τ 1 3 = ns := by rw [sc 1 (by omega)]; exact hns
            refine ev_iload dX5_read_50 rfl ?_
            refine ev_aload_n dX5_read_52 rfl ?_
            refine ev_getr 0 dX5_read_53 rfl rfl flX5_10 iwX5 (by decide) rfl ?_
            refine ev_geti 3 3 dX5_read_56 rfl rfl flX5_79 iwX2 (by decide) rfl rfl ?_
            refine ev_icmp_ge (tgt := 133) dX5_read_59 (by decide) (by omega) (by omega) (fun c59 => ?_) (fun c59 => ?_)
            · refine ev_iload_n dX5_read_133 rfl ?_
              refine ev_iret dX5_read_134 rfl rfl ?_
              have eo : o = ns := by omega
              subst eo
              exact ⟨rfl, sc⟩
            · exact absurd c59 (by omega)
          | succ k ih =>
            intro o τ ls l0 l1 l2 l3 l4 ho sc
            refine Ev.lsub (ls' := [(0, vR 0), (1, vI s), (2, vI l), (3, vI (sm (fun o => sm (fun c => g o c) 48) o)), (4, vI o)]) (by simp [l0, l1, l2, l3, l4]) ?_
            have e3 : τ 1 3 = ns := by rw [sc 1 (by omega)]; exact hns
            refine ev_iload dX5_read_50 rfl ?_
            refine ev_aload_n dX5_read_52 rfl ?_
            refine ev_getr 0 dX5_read_53 rfl rfl flX5_10 iwX5 (by decide) rfl ?_
            refine ev_geti 3 3 dX5_read_56 rfl rfl flX5_79 iwX2 (by decide) rfl rfl ?_
            refine ev_icmp_ge (tgt := 133) dX5_read_59 (by decide) (by omega) (by omega) (fun c59 => ?_) (fun c59 => ?_)
            · exact absurd c59 (by omega)
            · refine ev_iconst dX5_read_62 ?_
              refine ev_istore dX5_read_63 (by decide) rfl ?_
              refine inner o (sm (fun o => sm (fun c => g o c) 48) o) (by omega) ?_ 48 0 τ _ rfl rfl rfl (by rw [sm]; simp; rfl) rfl rfl (by omega) sc
              intro τ' ls' k0 k1 k2 k3 k4 sc'
              refine Ev.lsub (ls' := [(0, vR 0), (1, vI s), (2, vI l), (3, vI (sm (fun o => sm (fun c => g o c) 48) (o + 1))), (4, vI o)]) (by simp [k0, k1, k2, k3, k4, sm]) ?_
              refine ev_iinc dX5_read_127 rfl (by decide) rfl ?_
              refine ev_goto (tgt := 50) dX5_read_130 (by decide) ?_
              exact ih (o + 1) τ' _ rfl rfl rfl rfl rfl (by omega) sc'
        refine ev_iconst dX5_read_45 ?_
        refine ev_istore_n dX5_read_46 (by decide) rfl ?_
        refine ev_iconst dX5_read_47 ?_
        refine ev_istore dX5_read_48 (by decide) rfl ?_
        exact outer ns 0 σ _ rfl rfl rfl rfl rfl (by omega) sameC_rf
      · rw [if_pos (by omega)]
        refine ev_aload_n dX5_read_39 rfl ?_
        refine ev_iconst dX5_read_40 ?_
        refine ev_V1 (c_X5_finding (by omega)) okX5_finding dX5_read_41 mlX5_55 rfl rfl ⟨by decide, by decide⟩ rfl (Nat.le_of_ble_eq_true rfl) ?_
        refine ev_iret dX5_read_44 rfl rfl ?_
        exact ⟨rfl, sameC_rf⟩
    · rw [if_pos (by omega)]
      refine ev_aload_n dX5_read_25 rfl ?_
      refine ev_iconst dX5_read_26 ?_
      refine ev_V1 (c_X5_finding (by omega)) okX5_finding dX5_read_27 mlX5_55 rfl rfl ⟨by decide, by decide⟩ rfl (Nat.le_of_ble_eq_true rfl) ?_
      refine ev_iret dX5_read_30 rfl rfl ?_
      exact ⟨rfl, sameC_rf⟩
  · rw [if_pos (by omega)]
    refine ev_aload_n dX5_read_7 rfl ?_
    refine ev_iconst dX5_read_8 ?_
    refine ev_V1 (c_X5_finding (by omega)) okX5_finding dX5_read_9 mlX5_55 rfl rfl ⟨by decide, by decide⟩ rfl (Nat.le_of_ble_eq_true rfl) ?_
    refine ev_iret dX5_read_12 rfl rfl ?_
    exact ⟨rfl, sameC_rf⟩
def bkM (σ : ev_M) (P : ev_M) (q : Nat) (i : Int) : ev_M := fun a j => if a = q + 1 ∧ 0 ≤ j ∧ j < i then cutv (σ q 1) (WT (dayN P allp j.toNat)) else σ a j
theorem bkM_ne {σ P : ev_M} {q : Nat} {i : Int} {a : Nat} (h : a ≠ q + 1) : bkM σ P q i a = σ a := by
  funext j; unfold bkM; rw [if_neg (fun w => h w.1)]
theorem bkM_0 {σ P : ev_M} {q : Nat} : bkM σ P q 0 = σ := by
  funext a j; unfold bkM; rw [if_neg (by omega)]
theorem bkM_s {σ P : ev_M} {q i : Nat} : mup (bkM σ P q i) (q + 1) i (cutv (σ q 1) (WT (dayN P allp i))) = bkM σ P q ((i : Int) + 1) := by
  funext a j
  rw [mup]
  unfold bkM
  by_cases e : a = q + 1 ∧ j = i
  · obtain ⟨rfl, rfl⟩ := e
    rw [if_pos ⟨rfl, rfl⟩, if_pos (by omega), show ((i : Nat) : Int).toNat = i by omega]
  · rw [if_neg e]
    by_cases w : a = q + 1 ∧ 0 ≤ j ∧ j < i
    · rw [if_pos w, if_pos (by omega)]
    · rw [if_neg w, if_neg (by omega)]
def sc_book (σ : ev_M) (s : Int) : Int × ev_M := if ¬ (0 ≤ s ∧ s ≤ 3) then (-1000000001, fnd σ 0) else if σ (ev_rt s.toNat) 1 = 0 then (-1000000006, fnd σ 5) else (σ (ev_rt s.toNat) 2, bkM σ (wn σ 1) (ev_rt s.toNat) (σ (ev_rt s.toNat) 2))
theorem c_X5_book {b : ev_B} {σ : ev_M} {s : Int} (H : okP (wn σ 1)) (HS : okS σ) (h1 : (-2147483648 ≤ s ∧ s < 2147483648)) : Cl b mX5_book [vR 0, vI s] σ (fun r τ => r = some (vI (sc_book σ s).1) ∧ sameC (sc_book σ s).2 τ) := by
  refine ev_enter okX5_book.1 (Nat.le_of_ble_eq_true rfl) ?_
  unfold sc_book
  refine ev_iload_n dX5_book_0 rfl ?_
  refine ev_Sbne (tgt := 13) (c_X5_isSheet (by omega)) okX5_isSheet dX5_book_1 mlX5_208 ⟨by decide, by decide⟩ rfl (Nat.le_of_ble_eq_true rfl) dX5_book_4 (by decide) (fun c1 => ?_) (fun c1 => ?_)
  · rw [if_neg (by omega)]
    have hq := isS_rt c1
    generalize hqe : ev_rt s.toNat = q at hq ⊢
    obtain ⟨s1, s2, s3⟩ := HS q hq
    have hqb : 37 ≤ q := by rcases hq with rfl | rfl | rfl | rfl <;> omega
    refine ev_aload_n dX5_book_13 rfl ?_
    refine ev_getr 5 dX5_book_14 rfl rfl flX5_38 iwX5 (by decide) rfl ?_
    refine ev_iload_n dX5_book_17 rfl ?_
    refine ev_aald dX5_book_18 rfl (by omega) ?_
    rw [hqe]
    refine ev_astore_n dX5_book_19 (by decide) rfl ?_
    refine ev_aload_n dX5_book_20 rfl ?_
    refine ev_Vbeq (tgt := 33) (c_X3_isMissing hq (by omega)) okX3_isMissing dX5_book_21 mlX5_218 (sk0 hq) rfl ⟨by decide, by decide⟩ rfl (Nat.le_of_ble_eq_true rfl) dX5_book_24 (by decide) (fun c21 => ?_) (fun c21 => ?_)
    · rw [if_neg (by omega)]
      obtain ⟨n, hn, hn2⟩ := nn_ex s2.1
      have loop : ∀ (m i : Nat) (τ : ev_M), i + m = n → eqP (wn τ 19) (dayN (wn σ 1) allp i) → FO τ 19 → sameC (bkM σ (wn σ 1) q i) τ → Ev b mX5_book 66 [(0, vR 0), (1, vI s), (2, vR q), (3, vI (WT (dayN (wn σ 1) allp i))), (4, vI i)] [] τ (fun r τ => r = some (vI (σ q 2)) ∧ sameC (bkM σ (wn σ 1) q (σ q 2)) τ) := by
        intro m
        induction m with
        | zero =>
          intro i τ h ew fo sc
          have e2 : τ q 2 = σ q 2 := by rw [sc q (by omega), bkM_ne (by omega)]
          refine ev_iload dX5_book_66 rfl ?_
          refine ev_aload_n dX5_book_68 rfl ?_
          refine ev_geti 2 2 dX5_book_69 (sk0 hq) rfl flX5_215 iwX3 (by decide) rfl rfl ?_
          refine ev_icmp_ge (tgt := 103) dX5_book_72 (by decide) (by omega) (by omega) (fun c72 => ?_) (fun c72 => ?_)
          · refine ev_aload_n dX5_book_103 rfl ?_
            refine ev_geti 2 2 dX5_book_104 (sk0 hq) rfl flX5_215 iwX3 (by decide) rfl rfl ?_
            refine ev_iret dX5_book_107 rfl rfl ?_
            have e : i = n := by omega
            subst e
            rw [e2, hn]
            exact ⟨rfl, sc⟩
          · exact absurd c72 (by omega)
        | succ m ih =>
          intro i τ h ew fo sc
          have e2 : τ q 2 = σ q 2 := by rw [sc q (by omega), bkM_ne (by omega)]
          have e1 : τ q 1 = σ q 1 := by rw [sc q (by omega), bkM_ne (by omega)]
          have Hd := okP_dayN (pr := allp) H i
          have wb := WT_bd Hd
          have Hτ := eqP_ok ew Hd
          refine ev_iload dX5_book_66 rfl ?_
          refine ev_aload_n dX5_book_68 rfl ?_
          refine ev_geti 2 2 dX5_book_69 (sk0 hq) rfl flX5_215 iwX3 (by decide) rfl rfl ?_
          refine ev_icmp_ge (tgt := 103) dX5_book_72 (by decide) (by omega) (by omega) (fun c72 => ?_) (fun c72 => ?_)
          · exact absurd c72 (by omega)
          · have hfo2 : FO (mup τ (q + 1) i (cutv (τ q 1) (WT (dayN (wn σ 1) allp i)))) 19 := by
              obtain ⟨f1, f2, f3⟩ := fo
              have ewx : wn (mup τ (q + 1) i (cutv (τ q 1) (WT (dayN (wn σ 1) allp i)))) 19 = wn τ 19 := wn_congr (fun x hx => fr1 (by omega))
              have etx : tbl (mup τ (q + 1) i (cutv (τ q 1) (WT (dayN (wn σ 1) allp i)))) = tbl τ := by unfold tbl; rw [fr1 (by omega)]
              refine ⟨?_, ?_, ?_⟩
              · rw [etx, fr1 (by omega), fr1 (by omega), fr1 (by omega), fr1 (by omega)]; exact f1
              · rw [ewx, etx, fr1 (by omega)]; exact f2
              · rw [ewx, fr1 (by omega), fr1 (by omega)]; exact f3
            refine ev_aload_n dX5_book_75 rfl ?_
            refine ev_iload dX5_book_76 rfl ?_
            refine ev_iload_n dX5_book_78 rfl ?_
            refine ev_i2l dX5_book_79 (by omega) ?_
            refine ev_V0 (c_X3_put hq (by rw [e1]; exact s1) (by omega)) okX3_put dX5_book_80 mlX5_226 (sk0 hq) rfl ⟨by decide, by decide⟩ rfl (Nat.le_of_ble_eq_true rfl) ?_
            refine ev_iload_n dX5_book_83 rfl ?_
            refine ev_aload_n dX5_book_84 rfl ?_
            refine ev_getr 3 dX5_book_85 rfl rfl flX5_25 iwX5 (by decide) rfl ?_
            refine ev_aload_n dX5_book_88 rfl ?_
            refine ev_getr 2 dX5_book_89 rfl rfl flX5_19 iwX5 (by decide) rfl ?_
            refine ev_callV (c_X0_passDay hP19 (by rw [wn_congr (fun x hx => fr1 (by omega))]; exact Hτ) hfo2) okX0_passDay dX5_book_92 mlX5_177 rfl rfl ⟨by decide, by decide⟩ rfl (Nat.le_of_ble_eq_true rfl) (fun r92 τ92 h92 => ?_)
            obtain ⟨rfl, g1, g2, g3⟩ := h92
            have ewx : wn (mup τ (q + 1) i (cutv (τ q 1) (WT (dayN (wn σ 1) allp i)))) 19 = wn τ 19 := wn_congr (fun x hx => fr1 (by omega))
            rw [ewx] at g1 ⊢
            have cd := CM_day (eqP_CM ew Hd.2.2.2.1.1) Hd
            rw [cd.2]
            refine ev_isub dX5_book_95 ?_
            refine ev_istore_n dX5_book_96 (by decide) rfl ?_
            refine ev_iinc dX5_book_97 rfl (by decide) rfl ?_
            refine ev_goto (tgt := 66) dX5_book_100 (by decide) ?_
            rw [← WT_day]
            refine ih (i + 1) τ92 (by omega) ?_ g2 (fun a ha => ?_)
            · rw [g1]
              exact CM_eqP cd.1 (okP_day Hd).2.2.2.1.1
            · rw [g3 a (by omega) (by omega), show ((i + 1 : Nat) : Int) = (i : Int) + 1 by omega, ← bkM_s, e1]
              funext j
              unfold mup
              rw [sc a ha]
      refine ev_aload_n dX5_book_33 rfl ?_
      refine ev_getr 2 dX5_book_34 rfl rfl flX5_19 iwX5 (by decide) rfl ?_
      refine ev_aload_n dX5_book_37 rfl ?_
      refine ev_getr 0 dX5_book_38 rfl rfl flX5_10 iwX5 (by decide) rfl ?_
      refine ev_callV (c_X2_become hP19 hP1 (by decide) H) okX2_become dX5_book_41 mlX5_174 rfl rfl ⟨by decide, by decide⟩ rfl (Nat.le_of_ble_eq_true rfl) (fun r41 τ41 h41 => ?_)
      obtain ⟨rfl, g1, g2⟩ := h41
      have H2 := eqP_ok g1 H
      refine ev_aload_n dX5_book_44 rfl ?_
      refine ev_getr 3 dX5_book_45 rfl rfl flX5_25 iwX5 (by decide) rfl ?_
      refine ev_aload_n dX5_book_48 rfl ?_
      refine ev_getr 2 dX5_book_49 rfl rfl flX5_19 iwX5 (by decide) rfl ?_
      refine ev_callV (c_X0_look hP19 H2) okX0_look dX5_book_52 mlX5_62 rfl rfl ⟨by decide, by decide⟩ rfl (Nat.le_of_ble_eq_true rfl) (fun r52 τ52 h52 => ?_)
      obtain ⟨rfl, k1, k2, k3⟩ := h52
      have ew : wn τ52 19 = wn τ41 19 := wn_congr (fun j hj => k3 (19 + j) (by omega))
      have e20 : τ52 (19 + 1) = wn τ41 19 1 := k3 (19 + 1) (by omega)
      have e21 : sm (wn τ41 19 1) 48 = WT (wn σ 1) := by
        have z := eqP_WT g1
        unfold WT at z ⊢
        exact z
      refine ev_aload_n dX5_book_55 rfl ?_
      refine ev_getr 2 dX5_book_56 rfl rfl flX5_19 iwX5 (by decide) rfl ?_
      refine ev_V1 (c_X2_wheatOfAll hP19) okX2_wheatOfAll dX5_book_59 mlX5_158 rfl rfl ⟨by decide, by decide⟩ rfl (Nat.le_of_ble_eq_true rfl) ?_
      rw [e20, e21]
      refine ev_istore_n dX5_book_62 (by decide) rfl ?_
      refine ev_iconst dX5_book_63 ?_
      refine ev_istore dX5_book_64 (by decide) rfl ?_
      refine loop n 0 τ52 (by omega) (by rw [ew]; exact g1) k1 (fun a ha => ?_)
      rw [show ((0 : Nat) : Int) = 0 from rfl, bkM_0, k3 a (by omega), g2 a (by omega)]
    · rw [if_pos (by omega)]
      refine ev_aload_n dX5_book_27 rfl ?_
      refine ev_iconst dX5_book_28 ?_
      refine ev_V1 (c_X5_finding (by omega)) okX5_finding dX5_book_29 mlX5_55 rfl rfl ⟨by decide, by decide⟩ rfl (Nat.le_of_ble_eq_true rfl) ?_
      refine ev_iret dX5_book_32 rfl rfl ?_
      exact ⟨rfl, sameC_rf⟩
  · rw [if_pos (by omega)]
    refine ev_aload_n dX5_book_7 rfl ?_
    refine ev_iconst dX5_book_8 ?_
    refine ev_V1 (c_X5_finding (by omega)) okX5_finding dX5_book_9 mlX5_55 rfl rfl ⟨by decide, by decide⟩ rfl (Nat.le_of_ble_eq_true rfl) ?_
    refine ev_iret dX5_book_12 rfl rfl ?_
    exact ⟨rfl, sameC_rf⟩
