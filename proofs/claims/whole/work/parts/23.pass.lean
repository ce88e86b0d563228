/-! a day of the class -/
theorem c_X0_passDay {b : ev_B} {σ : ev_M} {p : Nat} (hp : isP p) (H : okP (wn σ p)) (hF : FO σ p) : Cl b mX0_passDay [vR 28, vR p] σ (fun r τ => r = some (vI (dayE (wn σ p) allp)) ∧ wn τ p = dayM (wn σ p) allp ∧ FO τ p ∧ ∀ a : Nat, (a < p ∨ p + 8 < a) → (a < 28 ∨ 33 < a) → τ a = σ a) := by
  refine ev_enter okX0_passDay.1 (Nat.le_of_ble_eq_true rfl) ?_
  have h0 := ok0 H
  have hpb : p ≤ 19 := by rcases hp with rfl | rfl | rfl <;> omega
  -- behind the fears: counts, table, fears are those of the plain
  have rest : ∀ υ : ev_M, FO υ p → (∀ l : Int, 0 ≤ l ∧ l < υ p 8 → υ 30 l = cnt (wn υ p) l) → wn υ p = wn σ p → (∀ a : Nat, a < 28 ∨ 33 < a → υ a = σ a) → Ev b mX0_passDay 13 [(0, vR 28), (1, vR p)] [] υ (fun r τ => r = some (vI (dayE (wn σ p) allp)) ∧ wn τ p = dayM (wn σ p) allp ∧ FO τ p ∧ ∀ a : Nat, (a < p ∨ p + 8 < a) → (a < 28 ∨ 33 < a) → τ a = σ a) := by
    intro υ fo fc ew fa
    have Hυ : okP (wn υ p) := by rw [ew]; exact H
    have g0 := ok0 Hυ
    obtain ⟨K, hK, hK2⟩ := nn_ex g0.1.1
    have hfe : ∀ c : Int, 0 ≤ c ∧ c < 48 → υ 29 c = fear (wn υ p) allp c := fun c hc => FO_fear Hυ fo fc hc
    have hec : ∀ k, eatc (υ 29) (υ (p + 1)) k = eatc (fear (wn υ p) allp) (υ (p + 1)) k := fun k => eatc_congr hfe k
    have hok := eatc_ok (f := υ 29) (w := υ (p + 1)) (fun c hc => okw Hυ hc)
    have fin : Ev b mX0_passDay 76 [(0, vR 28), (1, vR p), (2, vI (eatc (υ 29) (υ (p + 1)) K).2)] [] (srow υ (p + 1) (eatc (υ 29) (υ (p + 1)) K).1) (fun r τ => r = some (vI (dayE (wn σ p) allp)) ∧ wn τ p = dayM (wn σ p) allp ∧ FO τ p ∧ ∀ a : Nat, (a < p ∨ p + 8 < a) → (a < 28 ∨ 33 < a) → τ a = σ a) := by
      generalize hω : srow υ (p + 1) (eatc (υ 29) (υ (p + 1)) K).1 = ω
      have o1 : ∀ a : Nat, a ≠ p + 1 → ω a = υ a := fun a ha => by rw [← hω]; exact srow_ne ha
      have o2 : ω (p + 1) = (eatc (υ 29) (υ (p + 1)) K).1 := by rw [← hω]; exact srow_at
      have Hω : okP (wn ω p) := by
        obtain ⟨q1, q2, q3, q4, q5, q6, q7⟩ := Hυ
        have z0 : ∀ i, wn ω p 0 i = wn υ p 0 i := fun i => by rw [wn0, wn0, o1 p (by omega)]
        have z2 : ∀ i, wn ω p 2 i = wn υ p 2 i := fun i => by rw [wn2, wn2, o1 (p + 2) (by omega)]
        have z3 : ∀ i, wn ω p 3 i = wn υ p 3 i := fun i => by rw [wn3, wn3, o1 (p + 3) (by omega)]
        have z4 : ∀ i, wn ω p 4 i = wn υ p 4 i := fun i => by rw [wn4, wn4, o1 (p + 4) (by omega)]
        have z5 : ∀ i, wn ω p 5 i = wn υ p 5 i := fun i => by rw [wn5, wn5, o1 (p + 5) (by omega)]
        have z6 : ∀ i, wn ω p 6 i = wn υ p 6 i := fun i => by rw [wn6, wn6, o1 (p + 6) (by omega)]
        have z7 : ∀ i, wn ω p 7 i = wn υ p 7 i := fun i => by rw [wn7, wn7, o1 (p + 7) (by omega)]
        have z8 : ∀ i, wn ω p 8 i = wn υ p 8 i := fun i => by rw [wn8, wn8, o1 (p + 8) (by omega)]
        refine ⟨by rw [z0]; exact q1, by rw [z0]; exact q2, by rw [z0]; exact q3, by rw [z0]; exact q4, fun c hc => ?_, fun k hk => ?_, fun l hl => ?_⟩
        · rw [wn1, o2]; exact (hok K).1 c hc
        · rw [z2, z3, z4, z5]; exact q6 k (by rw [z0] at hk; exact hk)
        · rw [z6, z7, z8, z0]; exact q7 l (by rw [z0] at hl; exact hl)
      have e3 : ω p 3 = υ p 3 := by rw [o1 p (by omega)]
      have e8 : ω p 8 = υ p 8 := by rw [o1 p (by omega)]
      have e33 : ω 33 = υ 33 := o1 33 (by omega)
      refine ev_aload_n dX0_passDay_76 rfl ?_
      refine ev_aload_n dX0_passDay_77 rfl ?_
      refine ev_V0 (c_X0_growOlder hp Hω (fun k hk => by rw [e33, fo.2.2 k (by omega)]; exact mts_bd _ _ _ (by omega))) okX0_growOlder dX0_passDay_78 mlX0_76 rfl rfl ⟨by decide, by decide⟩ rfl (Nat.le_of_ble_eq_true rfl) ?_
      refine ev_iload_n dX0_passDay_81 rfl ?_
      refine ev_iret dX0_passDay_82 rfl rfl ?_
      generalize hτ : mup (gro ω p (ω p 3) (ω p 8)) p 2 (ω p 2 + 1) = τ
      have t1 : ∀ a : Nat, a ≠ p → a ≠ p + 3 → a ≠ p + 8 → τ a = ω a := fun a a0 a3 a8 => by rw [← hτ, fr1 a0, gro_ne a3 a8]
      have t0 : ∀ i : Int, τ p i = if i = 2 then υ p 2 + 1 else υ p i := by
        intro i
        rw [← hτ]
        by_cases hi : i = 2
        · subst hi
          rw [mr3, if_pos rfl, o1 p (by omega)]
        · rw [mr2 hi, if_neg hi, gro_ne (by omega) (by omega), o1 p (by omega)]
      have t3 : ∀ i : Int, τ (p + 3) i = if 0 ≤ i ∧ i < υ p 3 then max 0 (υ (p + 3) i - mts (wn υ p) allp i (υ p 8).toNat) else υ (p + 3) i := by
        intro i
        rw [← hτ, mr1 (by omega)]
        by_cases hi : 0 ≤ i ∧ i < υ p 3
        · rw [if_pos hi]
          unfold gro
          rw [if_pos (by omega), e33, fo.2.2 i hi, o1 (p + 3) (by omega)]
        · rw [if_neg hi, gro_3 (by omega), o1 (p + 3) (by omega)]
      have t8 : ∀ i : Int, τ (p + 8) i = if 0 ≤ i ∧ i < υ p 8 then min 9999 (υ (p + 8) i + 1) else υ (p + 8) i := by
        intro i
        rw [← hτ, mr1 (by omega)]
        by_cases hi : 0 ≤ i ∧ i < υ p 8
        · rw [if_pos hi]
          unfold gro
          rw [if_neg (by omega), if_pos (by omega), o1 (p + 8) (by omega)]
        · rw [if_neg hi, gro_8 (by omega), o1 (p + 8) (by omega)]
      have ed : wn τ p = dayM (wn σ p) allp := by
        rw [← ew]
        funext j i
        rcases (show j = 0 ∨ j = 1 ∨ j = 2 ∨ j = 3 ∨ j = 4 ∨ j = 5 ∨ j = 6 ∨ j = 7 ∨ j = 8 ∨ 9 ≤ j by omega) with rfl | rfl | rfl | rfl | rfl | rfl | rfl | rfl | rfl | h
        · rw [wn0, t0]
          show _ = (if 0 = 0 ∧ i = 2 then wn υ p 0 2 + 1 else wn υ p 0 i)
          by_cases hi : i = 2
          · rw [if_pos hi, if_pos ⟨rfl, hi⟩, wn0]
          · rw [if_neg hi, if_neg (fun q => hi q.2), wn0]
        · rw [wn1, t1 (p + 1) (by omega) (by omega) (by omega), o2, hec]
          show _ = (eatc (fear (wn υ p) allp) (wn υ p 1) (wn υ p 0 1).toNat).1 i
          rw [wn0, hK2]
          rfl
        · rw [wn2, t1 (p + 2) (by omega) (by omega) (by omega), o1 (p + 2) (by omega)]; rfl
        · rw [wn3, t3]; rfl
        · rw [wn4, t1 (p + 4) (by omega) (by omega) (by omega), o1 (p + 4) (by omega)]; rfl
        · rw [wn5, t1 (p + 5) (by omega) (by omega) (by omega), o1 (p + 5) (by omega)]; rfl
        · rw [wn6, t1 (p + 6) (by omega) (by omega) (by omega), o1 (p + 6) (by omega)]; rfl
        · rw [wn7, t1 (p + 7) (by omega) (by omega) (by omega), o1 (p + 7) (by omega)]; rfl
        · rw [wn8, t8]; rfl
        · have w1 : ∀ (x : ev_M), wn x p j i = 0 := fun x => by unfold wn; rw [if_neg (by omega)]
          rw [w1]
          unfold dayM
          rw [if_neg (by omega), if_neg (by omega), if_neg (by omega), if_neg (by omega), w1]
      have fl : ∀ a : Nat, 29 ≤ a → a ≤ 33 → τ a = υ a := fun a ha hb => by rw [t1 a (by omega) (by omega) (by omega), o1 a (by omega)]
      have et : tbl τ = tbl υ := by unfold tbl; rw [fl 31 (by omega) (by omega)]
      have r8 : τ p 8 = υ p 8 := by rw [t0, if_neg (by decide)]
      have r3 : τ p 3 = υ p 3 := by rw [t0, if_neg (by decide)]
      refine ⟨?_, ed, ⟨fun l hl => ?_, fun c hc => ?_, fun k hk => ?_⟩, fun a ha hb => ?_⟩
      · rw [hec, ← ew]
        show _ = some (vI (eatc (fear (wn υ p) allp) (wn υ p 1) (wn υ p 0 1).toNat).2)
        rw [wn0, hK2]
        rfl
      · rw [et, fl 30 (by omega) (by omega), t1 (p + 2) (by omega) (by omega) (by omega), t1 (p + 7) (by omega) (by omega) (by omega), o1 (p + 2) (by omega), o1 (p + 7) (by omega)]
        exact fo.1 l (by omega)
      · rw [ed, fearT_day, et, fl 29 (by omega) (by omega), ← ew]
        exact fo.2.1 c hc
      · rw [ed, mts_day, fl 33 (by omega) (by omega), r8, ← ew]
        exact fo.2.2 k (by omega)
      · rw [t1 a (by omega) (by omega) (by omega), o1 a (by omega)]
        exact fa a hb
    have loop : ∀ (m i : Nat) (ls : List (Nat × ev_V)), ev_lk ls 0 = some (vR 28) → ev_lk ls 1 = some (vR p) → ev_lk ls 2 = some (vI (eatc (υ 29) (υ (p + 1)) i).2) → ev_lk ls 3 = some (vI i) → i + m = K → Ev b mX0_passDay 17 ls [] (srow υ (p + 1) (eatc (υ 29) (υ (p + 1)) i).1) (fun r τ => r = some (vI (dayE (wn σ p) allp)) ∧ wn τ p = dayM (wn σ p) allp ∧ FO τ p ∧ ∀ a : Nat, (a < p ∨ p + 8 < a) → (a < 28 ∨ 33 < a) → τ a = σ a) := by
      intro m
      induction m with
      | zero =>
        intro i ls l0 l1 l2 l3 h
        refine Ev.lsub (ls' := [(0, vR 28), (1, vR p), (2, vI (eatc (υ 29) (υ (p + 1)) i).2), (3, vI i)]) (by simp [l0, l1, l2, l3]) ?_
        have e1 : srow υ (p + 1) (eatc (υ 29) (υ (p + 1)) i).1 p 1 = υ p 1 := by rw [srow_ne (by omega)]
        refine ev_iload_n dX0_passDay_17 rfl ?_
        refine ev_aload_n dX0_passDay_18 rfl ?_
        refine ev_geti 1 1 dX0_passDay_19 (pk0 hp) rfl flX0_64 iwX2 (by decide) rfl rfl ?_
        refine ev_icmp_ge (tgt := 76) dX0_passDay_22 (by decide) (by omega) (by omega) (fun c22 => ?_) (fun c22 => ?_)
        · have e : i = K := by omega
          subst e
          exact Ev.lsub (by simp [ev_lk]) fin
        · exact absurd c22 (by omega)
      | succ m ih =>
        intro i ls l0 l1 l2 l3 h
        refine Ev.lsub (ls' := [(0, vR 28), (1, vR p), (2, vI (eatc (υ 29) (υ (p + 1)) i).2), (3, vI i)]) (by simp [l0, l1, l2, l3]) ?_
        have e1 : srow υ (p + 1) (eatc (υ 29) (υ (p + 1)) i).1 p 1 = υ p 1 := by rw [srow_ne (by omega)]
        have e29 : srow υ (p + 1) (eatc (υ 29) (υ (p + 1)) i).1 29 = υ 29 := srow_ne (by omega)
        have ep1 : srow υ (p + 1) (eatc (υ 29) (υ (p + 1)) i).1 (p + 1) = (eatc (υ 29) (υ (p + 1)) i).1 := srow_at
        have lb := lnd_bd (eatc (υ 29) (υ (p + 1)) i).1 (υ 29) 48
        refine ev_iload_n dX0_passDay_17 rfl ?_
        refine ev_aload_n dX0_passDay_18 rfl ?_
        refine ev_geti 1 1 dX0_passDay_19 (pk0 hp) rfl flX0_64 iwX2 (by decide) rfl rfl ?_
        refine ev_icmp_ge (tgt := 76) dX0_passDay_22 (by decide) (by omega) (by omega) (fun c22 => ?_) (fun c22 => ?_)
        · exact absurd c22 (by omega)
        · refine ev_aload_n dX0_passDay_25 rfl ?_
          refine ev_aload_n dX0_passDay_26 rfl ?_
          refine ev_V1 (c_X0_landing hp (by rw [ep1]; exact (hok i).1) (by rw [e29]; exact fun c hc => FO_bd Hυ fo hc)) okX0_landing dX0_passDay_27 mlX0_67 rfl rfl ⟨by decide, by decide⟩ rfl (Nat.le_of_ble_eq_true rfl) ?_
          rw [ep1, e29]
          refine ev_istore dX0_passDay_30 (by decide) rfl ?_
          refine ev_iload dX0_passDay_32 rfl ?_
          refine ev_if_ge (tgt := 40) dX0_passDay_34 (by decide) (by omega) (fun c34 => ?_) (fun c34 => ?_)
          · have wb := (hok i).1 (lnd (eatc (υ 29) (υ (p + 1)) i).1 (υ 29) 48) (by omega)
            refine ev_iconst dX0_passDay_40 ?_
            refine ev_aload_n dX0_passDay_41 rfl ?_
            refine ev_getr 0 dX0_passDay_42 (pk0 hp) rfl flX0_50 iwX2 (by decide) rfl ?_
            refine ev_iload dX0_passDay_45 rfl ?_
            refine ev_iald dX0_passDay_47 (pk1 hp) (by omega) ?_
            rw [ep1]
            refine ev_mmin dX0_passDay_48 mlX0_70 ma_min (by omega) (by omega) ⟨by decide, Nat.le_of_ble_eq_true rfl⟩ ?_
            refine ev_istore dX0_passDay_51 (by decide) rfl ?_
            refine ev_aload_n dX0_passDay_53 rfl ?_
            refine ev_getr 0 dX0_passDay_54 (pk0 hp) rfl flX0_50 iwX2 (by decide) rfl ?_
            refine ev_iload dX0_passDay_57 rfl ?_
            refine ev_dup2 dX0_passDay_59 rfl rfl ?_
            refine ev_iald dX0_passDay_60 (pk1 hp) (by omega) ?_
            rw [ep1]
            refine ev_iload dX0_passDay_61 rfl ?_
            refine ev_isub dX0_passDay_63 ?_
            refine ev_iast dX0_passDay_64 (pk1 hp) (by omega) ?_
            rw [srow_up]
            refine ev_iload_n dX0_passDay_65 rfl ?_
            refine ev_iload dX0_passDay_66 rfl ?_
            refine ev_iadd dX0_passDay_68 ?_
            refine ev_istore_n dX0_passDay_69 (by decide) rfl ?_
            refine ev_iinc dX0_passDay_70 rfl (by decide) rfl ?_
            refine ev_goto (tgt := 17) dX0_passDay_73 (by decide) ?_
            have es : eatc (υ 29) (υ (p + 1)) (i + 1) = (upw (eatc (υ 29) (υ (p + 1)) i).1 (lnd (eatc (υ 29) (υ (p + 1)) i).1 (υ 29) 48) ((eatc (υ 29) (υ (p + 1)) i).1 (lnd (eatc (υ 29) (υ (p + 1)) i).1 (υ 29) 48) - min 2 ((eatc (υ 29) (υ (p + 1)) i).1 (lnd (eatc (υ 29) (υ (p + 1)) i).1 (υ 29) 48))), (eatc (υ 29) (υ (p + 1)) i).2 + min 2 ((eatc (υ 29) (υ (p + 1)) i).1 (lnd (eatc (υ 29) (υ (p + 1)) i).1 (υ 29) 48))) := by
              rw [eatc, if_neg (by omega)]
            have l := ih (i + 1)
            rw [es] at l
            exact l _ rfl rfl rfl rfl (by omega)
          · refine ev_goto (tgt := 76) dX0_passDay_37 (by decide) ?_
            have es := eatc_stay (f := υ 29) (w := υ (p + 1)) (k := i) (by omega) (m + 1)
            rw [show i + (m + 1) = K by omega] at es
            rw [es] at fin
            exact Ev.lsub (by simp [ev_lk, ev_s1, ev_ins, ev_c2]) fin
    refine ev_iconst dX0_passDay_13 ?_
    refine ev_istore_n dX0_passDay_14 (by decide) rfl ?_
    refine ev_iconst dX0_passDay_15 ?_
    refine ev_istore_n dX0_passDay_16 (by decide) rfl ?_
    have l := loop K 0 [(0, vR 28), (1, vR p), (2, vI 0), (3, vI 0)] rfl rfl rfl rfl (by omega)
    have es : srow υ (p + 1) (eatc (υ 29) (υ (p + 1)) 0).1 = υ := srow_self
    rw [es] at l
    exact l
  refine ev_aload_n dX0_passDay_0 rfl ?_
  refine ev_aload_n dX0_passDay_1 rfl ?_
  refine ev_callV (c_X0_renewScares hp H hF) okX0_renewScares dX0_passDay_2 mlX0_60 rfl rfl ⟨by decide, by decide⟩ rfl (Nat.le_of_ble_eq_true rfl) (fun r2 τ2 h2 => ?_)
  obtain ⟨ch, rfl, hch, ht⟩ := h2
  have ew := tkn_wn hp ht
  have e8 : τ2 p 8 = σ p 8 := by rw [ht.1 p (by omega) (by omega)]
  have hrow : ∀ l : Int, 0 ≤ l ∧ l < τ2 p 8 → (-15 ≤ τ2 30 l ∧ τ2 30 l ≤ 35) ∧ ∀ d : Int, 0 ≤ d ∧ d < 13 → tbl τ2 l d = sp_scare (τ2 (p + 2) (τ2 (p + 7) l)) (τ2 30 l) d := by
    intro l hl
    have q := ht.2.1 l (by omega)
    have cb := cnt_bd H (l := l) (by omega)
    refine ⟨by omega, fun d hd => ?_⟩
    rw [q.1, ht.1 (p + 2) (by omega) (by omega), ht.1 (p + 7) (by omega) (by omega)]
    exact q.2 d hd
  have hcn : ∀ l : Int, 0 ≤ l ∧ l < τ2 p 8 → τ2 30 l = cnt (wn τ2 p) l := by
    intro l hl
    rw [ew]
    exact (ht.2.1 l (by omega)).1
  cases ch with
  | false =>
    have e := hch rfl
    subst e
    refine ev_if_eq (tgt := 13) dX0_passDay_5 (by decide) (by omega) (fun c5 => ?_) (fun c5 => ?_)
    · exact rest τ2 hF hcn rfl (fun _ _ => rfl)
    · exact absurd rfl c5
  | true =>
    refine ev_if_eq (tgt := 13) dX0_passDay_5 (by decide) (by omega) (fun c5 => ?_) (fun c5 => ?_)
    · exact absurd c5 (by decide)
    · refine ev_aload_n dX0_passDay_8 rfl ?_
      refine ev_aload_n dX0_passDay_9 rfl ?_
      refine ev_callV (c_X0_weighFears hp (by rw [ew]; exact H) (FO_tbl hrow)) okX0_weighFears dX0_passDay_10 mlX0_46 rfl rfl ⟨by decide, by decide⟩ rfl (Nat.le_of_ble_eq_true rfl) (fun r10 τ10 h10 => ?_)
      obtain ⟨rfl, g1, g2⟩ := h10
      have ew2 : wn τ10 p = wn τ2 p := wn_congr (fun j hj => g2 (p + j) (by omega) (by omega))
      have et2 : tbl τ10 = tbl τ2 := by unfold tbl; rw [g2 31 (by omega) (by omega)]
      have b8 : τ10 p 8 = τ2 p 8 := by rw [g2 p (by omega) (by omega)]
      have b3 : τ10 p 3 = σ p 3 := by rw [g2 p (by omega) (by omega), ht.1 p (by omega) (by omega)]
      refine rest τ10 ⟨fun l hl => ?_, fun c hc => ?_, fun k hk => ?_⟩ (fun l hl => ?_) (by rw [ew2, ew]) (fun a ha => ?_)
      · rw [et2, g2 30 (by omega) (by omega), g2 (p + 2) (by omega) (by omega), g2 (p + 7) (by omega) (by omega)]
        exact hrow l (by omega)
      · rw [ew2, et2]
        exact g1 c hc
      · rw [g2 33 (by omega) (by omega), ht.1 33 (by omega) (by omega), ew2, ew, b8, e8]
        exact hF.2.2 k (by omega)
      · rw [g2 30 (by omega) (by omega), ew2]
        exact hcn l (by omega)
      · rw [g2 a (by omega) (by omega)]
        exact ht.1 a (by omega) (by omega)
theorem okP_dayN {P : ev_M} {pr : Int → Bool} (H : okP P) : ∀ n : Nat, okP (dayN P pr n)
  | 0 => H
  | n + 1 => okP_day (okP_dayN H n)
theorem eatN_s (P : ev_M) (pr : Int → Bool) (n : Nat) : eatN P pr (n + 1) = eatN P pr n + dayE (dayN P pr n) pr := by
  unfold eatN
  rw [sm, show ((n : Nat) : Int).toNat = n by omega]
theorem eatN_bd {P : ev_M} {pr : Int → Bool} (H : okP P) : ∀ n : Nat, 0 ≤ eatN P pr n ∧ eatN P pr n ≤ 40 * n
  | 0 => by simp [eatN, sm]
  | n + 1 => by
    have h := eatN_bd (pr := pr) H n
    have h2 := dayE_bd (pr := pr) (okP_dayN (pr := pr) H n)
    rw [eatN_s]
    omega
theorem eatN_mono {P : ev_M} {pr : Int → Bool} (H : okP P) {m : Nat} : ∀ k : Nat, eatN P pr m ≤ eatN P pr (m + k)
  | 0 => Int.le_refl _
  | k + 1 => by
    have h := eatN_mono (pr := pr) H (m := m) k
    have h2 := dayE_bd (pr := pr) (okP_dayN (pr := pr) H (m + k))
    rw [← Nat.add_assoc, eatN_s]
    omega
/-- so many days go, or until enough is eaten -/
theorem c_X0_passDays {b : ev_B} {σ : ev_M} {p : Nat} {n : Nat} {en : Int} (hp : isP p) (H : okP (wn σ p)) (hn : n ≤ 60) (he : 0 ≤ en ∧ en ≤ 1000000) : Cl b mX0_passDays [vR 28, vR p, vI n, vI en] σ (fun r τ => ∃ m : Nat, m ≤ n ∧ r = some (vI (eatN (wn σ p) allp m)) ∧ wn τ p = dayN (wn σ p) allp m ∧ (m = n ∨ en ≤ eatN (wn σ p) allp m) ∧ ∀ a : Nat, (a < p ∨ p + 8 < a) → (a < 28 ∨ 33 < a) → τ a = σ a) := by
  refine ev_enter okX0_passDays.1 (Nat.le_of_ble_eq_true rfl) ?_
  have hpb : p ≤ 19 := by rcases hp with rfl | rfl | rfl <;> omega
  have loop : ∀ (k i : Nat) (τ : ev_M), i + k = n → wn τ p = dayN (wn σ p) allp i → FO τ p → (∀ a : Nat, (a < p ∨ p + 8 < a) → (a < 28 ∨ 33 < a) → τ a = σ a) → Ev b mX0_passDays 11 [(0, vR 28), (1, vR p), (2, vI n), (3, vI en), (4, vI (eatN (wn σ p) allp i)), (5, vI i)] [] τ (fun r τ => ∃ m : Nat, m ≤ n ∧ r = some (vI (eatN (wn σ p) allp m)) ∧ wn τ p = dayN (wn σ p) allp m ∧ (m = n ∨ en ≤ eatN (wn σ p) allp m) ∧ ∀ a : Nat, (a < p ∨ p + 8 < a) → (a < 28 ∨ 33 < a) → τ a = σ a) := by
    intro k
    induction k with
    | zero =>
      intro i τ h ew fo fa
      refine ev_iload dX0_passDays_11 rfl ?_
      refine ev_iload_n dX0_passDays_13 rfl ?_
      refine ev_icmp_ge (tgt := 39) dX0_passDays_14 (by decide) (by omega) (by omega) (fun c14 => ?_) (fun c14 => ?_)
      · refine ev_iload dX0_passDays_39 rfl ?_
        refine ev_iret dX0_passDays_41 rfl rfl ?_
        exact ⟨i, by omega, rfl, ew, Or.inl (by omega), fa⟩
      · exact absurd c14 (by omega)
    | succ k ih =>
      intro i τ h ew fo fa
      have eb := eatN_bd (pr := allp) H i
      refine ev_iload dX0_passDays_11 rfl ?_
      refine ev_iload_n dX0_passDays_13 rfl ?_
      refine ev_icmp_ge (tgt := 39) dX0_passDays_14 (by decide) (by omega) (by omega) (fun c14 => ?_) (fun c14 => ?_)
      · exact absurd c14 (by omega)
      · refine ev_iload dX0_passDays_17 rfl ?_
        refine ev_iload_n dX0_passDays_19 rfl ?_
        refine ev_icmp_ge (tgt := 39) dX0_passDays_20 (by decide) (by omega) (by omega) (fun c20 => ?_) (fun c20 => ?_)
        · refine ev_iload dX0_passDays_39 rfl ?_
          refine ev_iret dX0_passDays_41 rfl rfl ?_
          exact ⟨i, by omega, rfl, ew, Or.inr c20, fa⟩
        · refine ev_iload dX0_passDays_23 rfl ?_
          refine ev_aload_n dX0_passDays_25 rfl ?_
          refine ev_aload_n dX0_passDays_26 rfl ?_
          refine ev_callV (c_X0_passDay hp (by rw [ew]; exact okP_dayN H i) fo) okX0_passDay dX0_passDays_27 mlX0_56 rfl rfl ⟨by decide, by decide⟩ rfl (Nat.le_of_ble_eq_true rfl) (fun r27 τ27 h27 => ?_)
          obtain ⟨rfl, g1, g2, g3⟩ := h27
          refine ev_iadd dX0_passDays_30 ?_
          refine ev_istore dX0_passDays_31 (by decide) rfl ?_
          refine ev_iinc dX0_passDays_33 rfl (by decide) rfl ?_
          refine ev_goto (tgt := 11) dX0_passDays_36 (by decide) ?_
          rw [ew]
          have e : eatN (wn σ p) allp i + dayE (dayN (wn σ p) allp i) allp = eatN (wn σ p) allp (i + 1) := (eatN_s _ _ _).symm
          rw [e]
          exact ih (i + 1) _ (by omega) (by rw [g1, ew]; rfl) g2 (fun a ha hb => by rw [g3 a ha hb]; exact fa a ha hb)
  refine ev_aload_n dX0_passDays_0 rfl ?_
  refine ev_aload_n dX0_passDays_1 rfl ?_
  refine ev_callV (c_X0_look hp H) okX0_look dX0_passDays_2 mlX0_53 rfl rfl ⟨by decide, by decide⟩ rfl (Nat.le_of_ble_eq_true rfl) (fun r2 τ2 h2 => ?_)
  obtain ⟨rfl, g1, g2, g3⟩ := h2
  refine ev_iconst dX0_passDays_5 ?_
  refine ev_istore dX0_passDays_6 (by decide) rfl ?_
  refine ev_iconst dX0_passDays_8 ?_
  refine ev_istore dX0_passDays_9 (by decide) rfl ?_
  exact loop n 0 _ (by omega) (wn_congr (fun j hj => g3 (p + j) (by omega))) g1 (fun a _ hb => g3 a hb)
