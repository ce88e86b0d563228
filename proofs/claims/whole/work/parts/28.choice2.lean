/-! what likenesses are there matters for days only below their number -/
theorem mst_prc {P : ev_M} {pr pr' : Int → Bool} {tb : Int → Int → Int} {c k s : Int} : ∀ {n : Nat}, (∀ l : Nat, l < n → pr l = pr' l) → mst P pr tb c k s n = mst P pr' tb c k s n
  | 0, _ => rfl
  | n + 1, h => by
    unfold mst
    rw [mst_prc (fun l hl => h l (by omega)), h n (by omega)]
theorem fear_prc {P : ev_M} {pr pr' : Int → Bool} (h : ∀ l : Nat, l < (P 0 8).toNat → pr l = pr' l) : fear P pr = fear P pr' := by
  funext c
  unfold fear fearT
  apply sm_congr
  intro i _
  rw [mst_prc h]
theorem mts_prc {P : ev_M} {pr pr' : Int → Bool} {k : Int} {n : Nat} (h : ∀ l : Nat, l < n → pr l = pr' l) : mts P pr k n = mts P pr' k n := by
  unfold mts
  apply sm_congr
  intro i hi
  apply sm_congr
  intro o ho
  unfold mpr
  rw [h i hi, h o (by omega)]
theorem day_prc {P : ev_M} {pr pr' : Int → Bool} (h : ∀ l : Nat, l < (P 0 8).toNat → pr l = pr' l) : dayM P pr = dayM P pr' ∧ dayE P pr = dayE P pr' := by
  have e1 : dayW P pr = dayW P pr' := by unfold dayW; rw [fear_prc h]
  refine ⟨?_, by unfold dayE; rw [e1]⟩
  funext j i
  unfold dayM
  rw [e1, mts_prc h]
theorem dayN_8 {P : ev_M} {pr : Int → Bool} : ∀ n : Nat, dayN P pr n 0 8 = P 0 8
  | 0 => rfl
  | n + 1 => dayN_8 n
theorem dayN_prc {P : ev_M} {pr pr' : Int → Bool} (h : ∀ l : Nat, l < (P 0 8).toNat → pr l = pr' l) : ∀ n : Nat, dayN P pr n = dayN P pr' n
  | 0 => rfl
  | n + 1 => by
    have ih := dayN_prc h n
    show dayM (dayN P pr n) pr = dayM (dayN P pr' n) pr'
    rw [ih]
    exact (day_prc (by rw [dayN_8]; exact h)).1
theorem eatN_prc {P : ev_M} {pr pr' : Int → Bool} (h : ∀ l : Nat, l < (P 0 8).toNat → pr l = pr' l) : ∀ n : Nat, eatN P pr n = eatN P pr' n
  | 0 => rfl
  | n + 1 => by
    rw [eatN_s, eatN_s, eatN_prc h n, dayN_prc h n, (day_prc (P := dayN P pr' n) (by rw [dayN_8]; exact h)).2]
/-! with some likenesses alone, with two changed -/
theorem c_X5_eatenWith {b : ev_B} {σ : ev_M} {s en : Int} {n : Nat} (H : okP (wn σ 1)) (hs : 0 ≤ s ∧ s < 256) (hn : n ≤ 60) (he : 0 ≤ en ∧ en ≤ 1000000) : Cl b mX5_eatenWith [vR 0, vI s, vI n, vI en] σ (fun r τ => ∃ m : Nat, m ≤ n ∧ r = some (vI (eatN (wn σ 1) (bitp s) m)) ∧ (m = n ∨ en ≤ eatN (wn σ 1) (bitp s) m) ∧ sameC σ τ) := by
  refine ev_enter okX5_eatenWith.1 (Nat.le_of_ble_eq_true rfl) ?_
  refine ev_aload_n dX5_eatenWith_0 rfl ?_
  refine ev_getr 2 dX5_eatenWith_1 rfl rfl flX5_19 iwX5 (by decide) rfl ?_
  refine ev_aload_n dX5_eatenWith_4 rfl ?_
  refine ev_getr 0 dX5_eatenWith_5 rfl rfl flX5_10 iwX5 (by decide) rfl ?_
  refine ev_callV (c_X2_become hP19 hP1 (by decide) H) okX2_become dX5_eatenWith_8 mlX5_174 rfl rfl ⟨by decide, by decide⟩ rfl (Nat.le_of_ble_eq_true rfl) (fun r8 τ8 h8 => ?_)
  obtain ⟨rfl, g1, g2⟩ := h8
  have H1 := eqP_ok g1 H
  refine ev_aload_n dX5_eatenWith_11 rfl ?_
  refine ev_getr 2 dX5_eatenWith_12 rfl rfl flX5_19 iwX5 (by decide) rfl ?_
  refine ev_iload_n dX5_eatenWith_15 rfl ?_
  refine ev_callV (c_X2_keepOnly hP19 H1 hs) okX2_keepOnly dX5_eatenWith_16 mlX5_260 rfl rfl ⟨by decide, by decide⟩ rfl (Nat.le_of_ble_eq_true rfl) (fun r16 τ16 h16 => ?_)
  obtain ⟨rfl, k1, k2⟩ := h16
  have k3 := CM_trans g1 H.2.2.2.1.1 k1
  have H2 := CM_ok k3 H
  refine ev_aload_n dX5_eatenWith_19 rfl ?_
  refine ev_getr 3 dX5_eatenWith_20 rfl rfl flX5_25 iwX5 (by decide) rfl ?_
  refine ev_aload_n dX5_eatenWith_23 rfl ?_
  refine ev_getr 2 dX5_eatenWith_24 rfl rfl flX5_19 iwX5 (by decide) rfl ?_
  refine ev_iload_n dX5_eatenWith_27 rfl ?_
  refine ev_iload_n dX5_eatenWith_28 rfl ?_
  refine ev_callV (c_X0_passDays (n := n) hP19 H2 hn he) okX0_passDays dX5_eatenWith_29 mlX5_154 rfl rfl ⟨by decide, by decide⟩ rfl (Nat.le_of_ble_eq_true rfl) (fun r29 τ29 h29 => ?_)
  obtain ⟨m, hm, rfl, e1, e2, e3⟩ := h29
  have ee := CM_eatN k3 H m
  refine ev_iret dX5_eatenWith_32 rfl rfl ?_
  rw [ee] at e2 ⊢
  refine ⟨m, hm, rfl, e2, fun a ha => ?_⟩
  rw [e3 a (by omega) (by omega), k2 a (by omega), g2 a (by omega)]
def swP (P : ev_M) (l o : Int) : ev_M := mup (mup P 6 l (P 6 o)) 6 o (P 6 l)
theorem c_X5_eatenSwapped {b : ev_B} {σ : ev_M} {l o en : Int} {n : Nat} (H : okP (wn σ 1)) (hl : 0 ≤ l ∧ l < σ 1 8) (ho : 0 ≤ o ∧ o < σ 1 8) (hn : n ≤ 60) (he : 0 ≤ en ∧ en ≤ 1000000) : Cl b mX5_eatenSwapped [vR 0, vI l, vI o, vI n, vI en] σ (fun r τ => ∃ m : Nat, m ≤ n ∧ r = some (vI (eatN (swP (wn σ 1) l o) allp m)) ∧ (m = n ∨ en ≤ eatN (swP (wn σ 1) l o) allp m) ∧ sameC σ τ) := by
  refine ev_enter okX5_eatenSwapped.1 (Nat.le_of_ble_eq_true rfl) ?_
  have h0 := ok0 H
  have q1 := okl1 H hl
  have q2 := okl1 H ho
  refine ev_aload_n dX5_eatenSwapped_0 rfl ?_
  refine ev_getr 2 dX5_eatenSwapped_1 rfl rfl flX5_19 iwX5 (by decide) rfl ?_
  refine ev_aload_n dX5_eatenSwapped_4 rfl ?_
  refine ev_getr 0 dX5_eatenSwapped_5 rfl rfl flX5_10 iwX5 (by decide) rfl ?_
  refine ev_callV (c_X2_become hP19 hP1 (by decide) H) okX2_become dX5_eatenSwapped_8 mlX5_174 rfl rfl ⟨by decide, by decide⟩ rfl (Nat.le_of_ble_eq_true rfl) (fun r8 τ8 h8 => ?_)
  obtain ⟨rfl, g1, g2⟩ := h8
  have e7 : ∀ x, τ8 7 x = σ 7 x := fun x => by rw [g2 7 (by omega)]
  refine ev_aload_n dX5_eatenSwapped_11 rfl ?_
  refine ev_getr 2 dX5_eatenSwapped_12 rfl rfl flX5_19 iwX5 (by decide) rfl ?_
  refine ev_getr 9 dX5_eatenSwapped_15 rfl rfl flX5_131 iwX2 (by decide) rfl ?_
  refine ev_iload_n dX5_eatenSwapped_18 rfl ?_
  refine ev_aload_n dX5_eatenSwapped_19 rfl ?_
  refine ev_getr 0 dX5_eatenSwapped_20 rfl rfl flX5_10 iwX5 (by decide) rfl ?_
  refine ev_getr 9 dX5_eatenSwapped_23 rfl rfl flX5_131 iwX2 (by decide) rfl ?_
  refine ev_iload_n dX5_eatenSwapped_26 rfl ?_
  refine ev_iald dX5_eatenSwapped_27 rfl (by omega) ?_
  rw [e7]
  refine ev_iast dX5_eatenSwapped_28 rfl (by omega) ?_
  refine ev_aload_n dX5_eatenSwapped_29 rfl ?_
  refine ev_getr 2 dX5_eatenSwapped_30 rfl rfl flX5_19 iwX5 (by decide) rfl ?_
  refine ev_getr 9 dX5_eatenSwapped_33 rfl rfl flX5_131 iwX2 (by decide) rfl ?_
  refine ev_iload_n dX5_eatenSwapped_36 rfl ?_
  refine ev_aload_n dX5_eatenSwapped_37 rfl ?_
  refine ev_getr 0 dX5_eatenSwapped_38 rfl rfl flX5_10 iwX5 (by decide) rfl ?_
  refine ev_getr 9 dX5_eatenSwapped_41 rfl rfl flX5_131 iwX2 (by decide) rfl ?_
  refine ev_iload_n dX5_eatenSwapped_44 rfl ?_
  refine ev_iald dX5_eatenSwapped_45 rfl (by omega) ?_
  rw [mr1 (by omega), e7]
  refine ev_iast dX5_eatenSwapped_46 rfl (by omega) ?_
  have g3 : eqP (wn (mup (mup τ8 (19 + 6) l (σ 7 o)) (19 + 6) o (σ 7 l)) 19) (swP (wn σ 1) l o) := by
    rw [wn_mup (by omega), wn_mup (by omega)]
    exact eqP_mup (eqP_mup g1 (by omega)) (by omega)
  have Hs : okP (swP (wn σ 1) l o) := okP_mup6 (okP_mup6 H q2.1) q1.1
  have H2 := eqP_ok g3 Hs
  refine ev_aload_n dX5_eatenSwapped_47 rfl ?_
  refine ev_getr 3 dX5_eatenSwapped_48 rfl rfl flX5_25 iwX5 (by decide) rfl ?_
  refine ev_aload_n dX5_eatenSwapped_51 rfl ?_
  refine ev_getr 2 dX5_eatenSwapped_52 rfl rfl flX5_19 iwX5 (by decide) rfl ?_
  refine ev_iload_n dX5_eatenSwapped_55 rfl ?_
  refine ev_iload dX5_eatenSwapped_56 rfl ?_
  refine ev_callV (c_X0_passDays (n := n) hP19 H2 hn he) okX0_passDays dX5_eatenSwapped_58 mlX5_154 rfl rfl ⟨by decide, by decide⟩ rfl (Nat.le_of_ble_eq_true rfl) (fun r58 τ58 h58 => ?_)
  obtain ⟨m, hm, rfl, e1, e2, e3⟩ := h58
  have ee := eqP_eat g3 Hs m
  refine ev_iret dX5_eatenSwapped_61 rfl rfl ?_
  rw [ee] at e2 ⊢
  refine ⟨m, hm, rfl, e2, fun a ha => ?_⟩
  rw [e3 a (by omega) (by omega), fr1 (by omega), fr1 (by omega), g2 a (by omega)]
/-! the fewest likenesses -/
def KP (g : Int → Prop) (all k : Int) : Prop := (k = all ∧ ∀ s : Int, 0 ≤ s ∧ s < all → ¬ g s) ∨ ((0 ≤ k ∧ k < all) ∧ g k ∧ ∀ s : Int, 0 ≤ s ∧ s < all → g s → pcnt k < pcnt s ∨ (pcnt k = pcnt s ∧ k ≤ s))
theorem KP_one {g : Int → Prop} {all k k' : Int} (h : KP g all k) (h' : KP g all k') : k = k' := by
  rcases h with ⟨rfl, h⟩ | ⟨h1, h2, h3⟩ <;> rcases h' with ⟨rfl, q⟩ | ⟨q1, q2, q3⟩
  · rfl
  · exact absurd q2 (h k' q1)
  · exact absurd h2 (q k h1)
  · have a := h3 k' q1 q2
    have b := q3 k h1 h2
    omega
theorem pcnt_lt : ∀ n : Nat, n < 9 → ∀ s : Nat, (s : Int) < pw n - 1 → s < 256 → pcnt s < n := by
  have h : ∀ n : Nat, n < 9 → ∀ s : Nat, s < 256 → (s : Int) < pw n - 1 → pcnt s < n := by decide +kernel
  exact fun n hn s h1 h2 => h n hn s h2 h1
theorem pcnt_bd {s : Int} (hs : 0 ≤ s ∧ s < 256) : 0 ≤ pcnt s ∧ pcnt s ≤ 8 := by
  have h : ∀ n : Nat, n < 256 → 0 ≤ pcnt n ∧ pcnt n ≤ 8 := by decide +kernel
  have := h s.toNat (by omega)
  rw [show ((s.toNat : Nat) : Int) = s by omega] at this
  exact this
theorem c_X5_keep {b : ev_B} {σ : ev_M} {n : Int} (H : okP (wn σ 1)) (h1 : (-2147483648 ≤ n ∧ n < 2147483648)) : Cl b mX5_keep [vR 0, vI n] σ (fun r τ => if 1 ≤ n ∧ n ≤ 10 then (∃ k, r = some (vI k) ∧ KP (fun s => eatN (wn σ 1) (bitp s) n.toNat ≤ eatN (wn σ 1) allp n.toNat) (pw (σ 1 8) - 1) k ∧ sameC σ τ) else (r = some (vI (-1000000001)) ∧ sameC (fnd σ 0) τ)) := by
  refine ev_enter okX5_keep.1 (Nat.le_of_ble_eq_true rfl) ?_
  have h0 := ok0 H
  refine ev_iload_n dX5_keep_0 rfl ?_
  refine ev_iconst dX5_keep_1 ?_
  refine ev_bipush dX5_keep_2 (by decide) ?_
  refine ev_Sbne (tgt := 16) (c_X5_isWithin (by omega) (by omega) (by omega)) okX5_isWithin dX5_keep_4 mlX5_51 ⟨by decide, by decide⟩ rfl (Nat.le_of_ble_eq_true rfl) dX5_keep_7 (by decide) (fun c4 => ?_) (fun c4 => ?_)
  · simp only [if_pos c4]
    obtain ⟨m, hm, hm2⟩ := nn_ex (x := n) (by omega)
    subst hm
    rw [hm2]
    obtain ⟨nl, hnl, hnl2⟩ := nn_ex h0.2.2.2.1
    have pwb := pw_bd nl (by omega)
    have eb := eatN_bd (pr := allp) H m
    generalize hE : eatN (wn σ 1) allp m = E at eb ⊢
    rw [hnl]
    have outer : ∀ (k sz : Nat) (τ : ev_M) (ls : List (Nat × ev_V)), ev_lk ls 0 = some (vR 0) → ev_lk ls 1 = some (vI m) → ev_lk ls 2 = some (vI (pw nl - 1)) → ev_lk ls 3 = some (vI E) → ev_lk ls 4 = some (vI sz) → sz + k = nl → (∀ s : Int, 0 ≤ s ∧ s < pw nl - 1 → pcnt s < sz → ¬ eatN (wn σ 1) (bitp s) m ≤ E) → sameC σ τ → Ev b mX5_keep 33 ls [] τ (fun r τ => ∃ k, r = some (vI k) ∧ KP (fun s => eatN (wn σ 1) (bitp s) m ≤ E) (pw nl - 1) k ∧ sameC σ τ) := by
      intro k
      induction k with
      | zero =>
        intro sz τ ls l0 l1 l2 l3 l4 hk inv sc
        refine Ev.lsub (ls' := [(0, vR 0), (1, vI m), (2, vI (pw nl - 1)), (3, vI E), (4, vI sz)]) (by simp [l0, l1, l2, l3, l4]) ?_
        have e8 : τ 1 8 = nl := by rw [sc 1 (by omega)]; exact hnl
        refine ev_iload dX5_keep_33 rfl ?_
        refine ev_aload_n dX5_keep_35 rfl ?_
        refine ev_getr 0 dX5_keep_36 rfl rfl flX5_10 iwX5 (by decide) rfl ?_
        refine ev_geti 8 8 dX5_keep_39 rfl rfl flX5_121 iwX2 (by decide) rfl rfl ?_
        refine ev_icmp_ge (tgt := 93) dX5_keep_42 (by decide) (by omega) (by omega) (fun c42 => ?_) (fun c42 => ?_)
        · refine ev_iload_n dX5_keep_93 rfl ?_
          refine ev_iret dX5_keep_94 rfl rfl ?_
          refine ⟨_, rfl, Or.inl ⟨rfl, fun s hs => inv s hs ?_⟩, sc⟩
          have q := pcnt_lt nl (by omega) s.toNat (by omega) (by omega)
          rw [show ((s.toNat : Nat) : Int) = s by omega] at q
          omega
        · exact absurd c42 (by omega)
      | succ k ih =>
        intro sz τ ls l0 l1 l2 l3 l4 hk inv sc
        refine Ev.lsub (ls' := [(0, vR 0), (1, vI m), (2, vI (pw nl - 1)), (3, vI E), (4, vI sz)]) (by simp [l0, l1, l2, l3, l4]) ?_
        have e8 : τ 1 8 = nl := by rw [sc 1 (by omega)]; exact hnl
        have inner : ∀ (j t : Nat) (τ : ev_M) (ls : List (Nat × ev_V)), ev_lk ls 0 = some (vR 0) → ev_lk ls 1 = some (vI m) → ev_lk ls 2 = some (vI (pw nl - 1)) → ev_lk ls 3 = some (vI E) → ev_lk ls 4 = some (vI sz) → ev_lk ls 5 = some (vI t) → (t : Int) + j = pw nl - 1 → (∀ s : Int, 0 ≤ s ∧ s < t → pcnt s = sz → ¬ eatN (wn σ 1) (bitp s) m ≤ E) → sameC σ τ → Ev b mX5_keep 48 ls [] τ (fun r τ => ∃ k, r = some (vI k) ∧ KP (fun s => eatN (wn σ 1) (bitp s) m ≤ E) (pw nl - 1) k ∧ sameC σ τ) := by
          intro j
          induction j with
          | zero =>
            intro t τ ls l0 l1 l2 l3 l4 l5 ht inv2 sc
            refine Ev.lsub (ls' := [(0, vR 0), (1, vI m), (2, vI (pw nl - 1)), (3, vI E), (4, vI sz), (5, vI t)]) (by simp [l0, l1, l2, l3, l4, l5]) ?_
            refine ev_iload dX5_keep_48 rfl ?_
            refine ev_iload_n dX5_keep_50 rfl ?_
            refine ev_icmp_ge (tgt := 87) dX5_keep_51 (by decide) (by omega) (by omega) (fun c51 => ?_) (fun c51 => ?_)
            · refine ev_iinc dX5_keep_87 rfl (by decide) rfl ?_
              refine ev_goto (tgt := 33) dX5_keep_90 (by decide) ?_
              refine ih (sz + 1) τ _ rfl rfl rfl rfl rfl (by omega) (fun s hs hq => ?_) sc
              by_cases hq2 : pcnt s = sz
              · exact inv2 s (by omega) hq2
              · exact inv s hs (by omega)
            · exact absurd c51 (by omega)
          | succ j ihj =>
            intro t τ ls l0 l1 l2 l3 l4 l5 ht inv2 sc
            refine Ev.lsub (ls' := [(0, vR 0), (1, vI m), (2, vI (pw nl - 1)), (3, vI E), (4, vI sz), (5, vI t)]) (by simp [l0, l1, l2, l3, l4, l5]) ?_
            have pb := pcnt_bd (s := t) (by omega)
            have nxt : ∀ (τ : ev_M) (ls : List (Nat × ev_V)), ev_lk ls 0 = some (vR 0) → ev_lk ls 1 = some (vI m) → ev_lk ls 2 = some (vI (pw nl - 1)) → ev_lk ls 3 = some (vI E) → ev_lk ls 4 = some (vI sz) → ev_lk ls 5 = some (vI t) → (pcnt t = sz → ¬ eatN (wn σ 1) (bitp t) m ≤ E) → sameC σ τ → Ev b mX5_keep 81 ls [] τ (fun r τ => ∃ k, r = some (vI k) ∧ KP (fun s => eatN (wn σ 1) (bitp s) m ≤ E) (pw nl - 1) k ∧ sameC σ τ) := by
              intro τ ls l0 l1 l2 l3 l4 l5 hno sc
              refine Ev.lsub (ls' := [(0, vR 0), (1, vI m), (2, vI (pw nl - 1)), (3, vI E), (4, vI sz), (5, vI t)]) (by simp [l0, l1, l2, l3, l4, l5]) ?_
              refine ev_iinc dX5_keep_81 rfl (by decide) rfl ?_
              refine ev_goto (tgt := 48) dX5_keep_84 (by decide) ?_
              refine ihj (t + 1) τ _ rfl rfl rfl rfl rfl rfl (by omega) (fun s hs hq => ?_) sc
              by_cases hst : s = t
              · subst hst; exact hno hq
              · exact inv2 s (by omega) hq
            refine ev_iload dX5_keep_48 rfl ?_
            refine ev_iload_n dX5_keep_50 rfl ?_
            refine ev_icmp_ge (tgt := 87) dX5_keep_51 (by decide) (by omega) (by omega) (fun c51 => ?_) (fun c51 => ?_)
            · exact absurd c51 (by omega)
            · refine ev_iload dX5_keep_54 rfl ?_
              refine ev_S1 (c_J6_bitCount_0f7a4 (by omega)) okJ6_bitCount_0f7a4 dX5_keep_56 mlX5_103 ⟨by decide, by decide⟩ rfl (Nat.le_of_ble_eq_true rfl) ?_
              refine ev_iload dX5_keep_59 rfl ?_
              refine ev_icmp_ne (tgt := 81) dX5_keep_61 (by decide) (by omega) (by omega) (fun c61 => ?_) (fun c61 => ?_)
              · exact nxt τ _ rfl rfl rfl rfl rfl rfl (fun q => absurd q c61) sc
              · have ew : wn τ 1 = wn σ 1 := wn_congr (fun x hx => sc (1 + x) (by omega))
                refine ev_aload_n dX5_keep_64 rfl ?_
                refine ev_iload dX5_keep_65 rfl ?_
                refine ev_iload_n dX5_keep_67 rfl ?_
                refine ev_iload_n dX5_keep_68 rfl ?_
                refine ev_iconst dX5_keep_69 ?_
                refine ev_iadd dX5_keep_70 ?_
                refine ev_callV (c_X5_eatenWith (n := m) (by rw [ew]; exact H) (by omega) (by omega) (by omega)) okX5_eatenWith dX5_keep_71 mlX5_187 rfl rfl ⟨by decide, by decide⟩ rfl (Nat.le_of_ble_eq_true rfl) (fun r71 τ71 h71 => ?_)
                obtain ⟨d, hd, rfl, f2, f3⟩ := h71
                rw [ew] at f2 ⊢
                have mono := eatN_mono (pr := bitp t) H (m := d) (m - d)
                rw [show d + (m - d) = m by omega] at mono
                have db := eatN_bd (pr := bitp t) H d
                have sc2 : sameC σ τ71 := fun a ha => by rw [f3 a ha]; exact sc a ha
                refine ev_iload_n dX5_keep_74 rfl ?_
                refine ev_icmp_gt (tgt := 81) dX5_keep_75 (by decide) (by omega) (by omega) (fun c75 => ?_) (fun c75 => ?_)
                · refine nxt τ71 _ rfl rfl rfl rfl rfl rfl (fun _ => ?_) sc2
                  omega
                · refine ev_iload dX5_keep_78 rfl ?_
                  refine ev_iret dX5_keep_80 rfl rfl ?_
                  have edn : eatN (wn σ 1) (bitp t) d = eatN (wn σ 1) (bitp t) m := by
                    rcases f2 with q | q
                    · rw [q]
                    · exact absurd q (by omega)
                  refine ⟨_, rfl, Or.inr ⟨by omega, by omega, fun s hs hg => ?_⟩, sc2⟩
                  by_cases hq : pcnt s < sz
                  · exact absurd hg (inv s hs hq)
                  · by_cases hq2 : pcnt s = sz
                    · by_cases hst : s < t
                      · exact absurd hg (inv2 s (by omega) hq2)
                      · exact Or.inr ⟨by omega, by omega⟩
                    · exact Or.inl (by omega)
        refine ev_iload dX5_keep_33 rfl ?_
        refine ev_aload_n dX5_keep_35 rfl ?_
        refine ev_getr 0 dX5_keep_36 rfl rfl flX5_10 iwX5 (by decide) rfl ?_
        refine ev_geti 8 8 dX5_keep_39 rfl rfl flX5_121 iwX2 (by decide) rfl rfl ?_
        refine ev_icmp_ge (tgt := 93) dX5_keep_42 (by decide) (by omega) (by omega) (fun c42 => ?_) (fun c42 => ?_)
        · exact absurd c42 (by omega)
        · refine ev_iconst dX5_keep_45 ?_
          refine ev_istore dX5_keep_46 (by decide) rfl ?_
          exact inner (pw nl - 1).toNat 0 τ _ rfl rfl rfl rfl rfl rfl (by omega) (fun s hs => absurd hs (by omega)) sc
    refine ev_aload_n dX5_keep_16 rfl ?_
    refine ev_getr 0 dX5_keep_17 rfl rfl flX5_10 iwX5 (by decide) rfl ?_
    refine ev_V1 (c_X2_allLikenesses hP1 H) okX2_allLikenesses dX5_keep_20 mlX5_184 rfl rfl ⟨by decide, by decide⟩ rfl (Nat.le_of_ble_eq_true rfl) ?_
    rw [hnl]
    refine ev_istore_n dX5_keep_23 (by decide) rfl ?_
    refine ev_aload_n dX5_keep_24 rfl ?_
    refine ev_iload_n dX5_keep_25 rfl ?_
    refine ev_callV (c_X5_eatenAsItIs (n := m) H (by omega)) okX5_eatenAsItIs dX5_keep_26 mlX5_171 rfl rfl ⟨by decide, by decide⟩ rfl (Nat.le_of_ble_eq_true rfl) (fun r26 τ26 h26 => ?_)
    obtain ⟨rfl, e1, e2⟩ := h26
    rw [hE]
    refine ev_istore_n dX5_keep_29 (by decide) rfl ?_
    refine ev_iconst dX5_keep_30 ?_
    refine ev_istore dX5_keep_31 (by decide) rfl ?_
    exact outer nl 0 _ _ rfl rfl rfl rfl rfl (by omega) (fun s hs hq => absurd hq (by have := pcnt_bd (s := s) (by omega); omega)) e2
  · simp only [if_neg c4]
    refine ev_aload_n dX5_keep_10 rfl ?_
    refine ev_iconst dX5_keep_11 ?_
    refine ev_V1 (c_X5_finding (by omega)) okX5_finding dX5_keep_12 mlX5_55 rfl rfl ⟨by decide, by decide⟩ rfl (Nat.le_of_ble_eq_true rfl) ?_
    refine ev_iret dX5_keep_15 rfl rfl ?_
    exact ⟨rfl, sameC_rf⟩
