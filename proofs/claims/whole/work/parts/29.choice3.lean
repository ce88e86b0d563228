/-! whose likenesses are worth most -/
theorem bt_diff {n : Nat} {s : Int} (hn : n < 9) (hs : 0 ≤ s ∧ s < pw n) : Int32.ofInt (pw n - 1) &&& Int32.ofInt (Int32.ofInt s ^^^ Int32.ofInt (-1)).toInt = Int32.ofInt (pw n - 1 - s) := by
  rw [Int32.ofInt_toInt]
  have h1 : ∀ n : Nat, n < 9 → ∀ s : Nat, s < 2 ^ n → Int32.ofInt (pw n - 1) &&& (Int32.ofInt s ^^^ Int32.ofInt (-1)) = Int32.ofInt (pw n - 1 - s) := by decide +kernel
  have h2 := h1 n hn s.toNat (by rw [pw_nat] at hs; have h3 : ((2 ^ n : Nat) : Int) = (2 : Int) ^ n := by simp
                                 omega)
  rw [show ((s.toNat : Nat) : Int) = s by omega] at h2
  exact h2
theorem stf_not (f : Int → Bool) : ∀ n : Nat, pw n - 1 - stf f n = stf (fun l => !f l) n
  | 0 => by simp [stf, sm, pw]
  | n + 1 => by
    have ih := stf_not f n
    rw [stf_s, stf_s, pw_s]
    by_cases h : f n = true
    · simp only [h]
      simp
      omega
    · have h2 : f n = false := by simpa using h
      simp only [h2]
      simp
      omega
theorem bitp_stf (f : Int → Bool) {n l : Nat} (h : l < n) : bitp (stf f n) l = f l := by
  unfold bitp
  rw [stf_bit f h]
  cases f l <;> rfl
/-- the first of those below n with the most e, more than e0; -1: none -/
def amx (e : Int → Int) (e0 : Int) : Nat → Int
  | 0 => -1
  | n + 1 => if (if amx e e0 n < 0 then e0 else e (amx e e0 n)) < e n then (n : Int) else amx e e0 n
theorem amx_bd (e : Int → Int) (e0 : Int) : ∀ n : Nat, -1 ≤ amx e e0 n ∧ amx e e0 n < n
  | 0 => by simp [amx]
  | n + 1 => by
    have := amx_bd e e0 n
    unfold amx
    split <;> omega
theorem amx_congr {e e' : Int → Int} {e0 : Int} : ∀ {n : Nat}, (∀ i : Nat, i < n → e i = e' i) → amx e e0 n = amx e' e0 n
  | 0, _ => rfl
  | n + 1, h => by
    have ih := amx_congr (e0 := e0) (n := n) (fun i hi => h i (by omega))
    have hb := amx_bd e' e0 n
    unfold amx
    rw [ih, h n (by omega)]
    by_cases q : amx e' e0 n < 0
    · simp [q]
    · have hq := h (amx e' e0 n).toNat (by omega)
      rw [show (((amx e' e0 n).toNat : Nat) : Int) = amx e' e0 n by omega] at hq
      rw [if_neg q, if_neg q, hq]
def notOf (P : ev_M) (k : Int) : Int → Bool := fun l => !decide (P 7 l = k)
def sc_worth (σ : ev_M) (n : Int) : Int × ev_M := if 1 ≤ n ∧ n ≤ 20 then (if amx (fun k => eatN (wn σ 1) (notOf (wn σ 1) k) n.toNat) (eatN (wn σ 1) allp n.toNat) (σ 1 3).toNat < 0 then (-1000000004, fnd σ 3) else (amx (fun k => eatN (wn σ 1) (notOf (wn σ 1) k) n.toNat) (eatN (wn σ 1) allp n.toNat) (σ 1 3).toNat, σ)) else (-1000000001, fnd σ 0)
theorem c_X5_worth {b : ev_B} {σ : ev_M} {n : Int} (H : okP (wn σ 1)) (h1 : (-2147483648 ≤ n ∧ n < 2147483648)) : Cl b mX5_worth [vR 0, vI n] σ (fun r τ => r = some (vI (sc_worth σ n).1) ∧ sameC (sc_worth σ n).2 τ) := by
  refine ev_enter okX5_worth.1 (Nat.le_of_ble_eq_true rfl) ?_
  have h0 := ok0 H
  unfold sc_worth
  refine ev_iload_n dX5_worth_0 rfl ?_
  refine ev_iconst dX5_worth_1 ?_
  refine ev_bipush dX5_worth_2 (by decide) ?_
  refine ev_Sbne (tgt := 16) (c_X5_isWithin (by omega) (by omega) (by omega)) okX5_isWithin dX5_worth_4 mlX5_51 ⟨by decide, by decide⟩ rfl (Nat.le_of_ble_eq_true rfl) dX5_worth_7 (by decide) (fun c4 => ?_) (fun c4 => ?_)
  · rw [if_pos (by omega)]
    obtain ⟨m, hm, hm2⟩ := nn_ex (x := n) (by omega)
    subst hm
    rw [hm2]
    obtain ⟨nl, hnl, hnl2⟩ := nn_ex h0.2.2.2.1
    obtain ⟨ns, hns, hns2⟩ := nn_ex h0.2.2.1.1
    rw [hns2]
    have pwb := pw_bd nl (by omega)
    have eb := eatN_bd (pr := allp) H m
    generalize hE : eatN (wn σ 1) allp m = E at eb ⊢
    generalize hee : (fun k => eatN (wn σ 1) (notOf (wn σ 1) k) m) = e
    have heb : ∀ k, 0 ≤ e k ∧ e k ≤ 800 := by
      intro k
      have := eatN_bd (pr := notOf (wn σ 1) k) H m
      rw [← hee]
      simp only []
      omega
    have loop : ∀ (j k : Nat) (τ : ev_M) (mo : Int) (ls : List (Nat × ev_V)), ev_lk ls 0 = some (vR 0) → ev_lk ls 1 = some (vI m) → ev_lk ls 2 = some (vI (amx e E k)) → ev_lk ls 3 = some (vI mo) → ev_lk ls 4 = some (vI k) → k + j = ns → mo = (if amx e E k < 0 then E else e (amx e E k)) → sameC σ τ → Ev b mX5_worth 27 ls [] τ (fun r τ => r = some (vI (if amx e E ns < 0 then (-1000000004, fnd σ 3) else (amx e E ns, σ)).1) ∧ sameC (if amx e E ns < 0 then (-1000000004, fnd σ 3) else (amx e E ns, σ)).2 τ) := by
      intro j
      induction j with
      | zero =>
        intro k τ mo ls l0 l1 l2 l3 l4 hk hmo sc
        refine Ev.lsub (ls' := [(0, vR 0), (1, vI m), (2, vI (amx e E k)), (3, vI mo), (4, vI k)]) (by simp [l0, l1, l2, l3, l4]) ?_
        have e3 : τ 1 3 = ns := by rw [sc 1 (by omega)]; exact hns
        have ab := amx_bd e E k
        have ek : k = ns := by omega
        subst ek
        refine ev_iload dX5_worth_27 rfl ?_
        refine ev_aload_n dX5_worth_29 rfl ?_
        refine ev_getr 0 dX5_worth_30 rfl rfl flX5_10 iwX5 (by decide) rfl ?_
        refine ev_geti 3 3 dX5_worth_33 rfl rfl flX5_79 iwX2 (by decide) rfl rfl ?_
        refine ev_icmp_ge (tgt := 89) dX5_worth_36 (by decide) (by omega) (by omega) (fun c36 => ?_) (fun c36 => ?_)
        · refine ev_iload_n dX5_worth_89 rfl ?_
          refine ev_if_ge (tgt := 101) dX5_worth_90 (by decide) (by omega) (fun c90 => ?_) (fun c90 => ?_)
          · rw [if_neg (by omega)]
            refine ev_iload_n dX5_worth_101 rfl ?_
            refine ev_iret dX5_worth_102 rfl rfl ?_
            exact ⟨rfl, sc⟩
          · rw [if_pos (by omega)]
            refine ev_aload_n dX5_worth_93 rfl ?_
            refine ev_iconst dX5_worth_94 ?_
            refine ev_V1 (c_X5_finding (by omega)) okX5_finding dX5_worth_95 mlX5_55 rfl rfl ⟨by decide, by decide⟩ rfl (Nat.le_of_ble_eq_true rfl) ?_
            refine ev_goto (tgt := 102) dX5_worth_98 (by decide) ?_
            refine ev_iret dX5_worth_102 rfl rfl ?_
            exact ⟨rfl, sameC_fnd sc⟩
        · exact absurd c36 (by omega)
      | succ j ih =>
        intro k τ mo ls l0 l1 l2 l3 l4 hk hmo sc
        refine Ev.lsub (ls' := [(0, vR 0), (1, vI m), (2, vI (amx e E k)), (3, vI mo), (4, vI k)]) (by simp [l0, l1, l2, l3, l4]) ?_
        have e3 : τ 1 3 = ns := by rw [sc 1 (by omega)]; exact hns
        have e8 : τ 1 8 = nl := by rw [sc 1 (by omega)]; exact hnl
        have e78 : (τ 1 8).toNat = nl := by omega
        have ew : wn τ 1 = wn σ 1 := wn_congr (fun x hx => sc (1 + x) (by omega))
        have Hτ : okP (wn τ 1) := by rw [ew]; exact H
        have hb := stf_bd (fun l => decide (τ (1 + 7) l = k)) nl
        have hb2 := stf_bd (fun l => !decide (τ (1 + 7) l = k)) nl
        have mob : 0 ≤ mo ∧ mo ≤ 800 := by
          rw [hmo]
          split
          · omega
          · exact heb _
        have ekb := heb k
        refine ev_iload dX5_worth_27 rfl ?_
        refine ev_aload_n dX5_worth_29 rfl ?_
        refine ev_getr 0 dX5_worth_30 rfl rfl flX5_10 iwX5 (by decide) rfl ?_
        refine ev_geti 3 3 dX5_worth_33 rfl rfl flX5_79 iwX2 (by decide) rfl rfl ?_
        refine ev_icmp_ge (tgt := 89) dX5_worth_36 (by decide) (by omega) (by omega) (fun c36 => ?_) (fun c36 => ?_)
        · exact absurd c36 (by omega)
        · refine ev_aload_n dX5_worth_39 rfl ?_
          refine ev_getr 0 dX5_worth_40 rfl rfl flX5_10 iwX5 (by decide) rfl ?_
          refine ev_V1 (c_X2_allLikenesses hP1 Hτ) okX2_allLikenesses dX5_worth_43 mlX5_184 rfl rfl ⟨by decide, by decide⟩ rfl (Nat.le_of_ble_eq_true rfl) ?_
          rw [e8]
          refine ev_aload_n dX5_worth_46 rfl ?_
          refine ev_getr 0 dX5_worth_47 rfl rfl flX5_10 iwX5 (by decide) rfl ?_
          refine ev_iload dX5_worth_50 rfl ?_
          refine ev_V1 (c_X2_likenessesOf hP1 Hτ (by omega)) okX2_likenessesOf dX5_worth_52 mlX5_100 rfl rfl ⟨by decide, by decide⟩ rfl (Nat.le_of_ble_eq_true rfl) ?_
          rw [e78]
          refine ev_iconst dX5_worth_55 ?_
          refine ev_ixor dX5_worth_56 (Int32.ofInt_toInt _).symm ?_
          refine ev_iand dX5_worth_57 (bt_diff (by omega) hb) ?_
          rw [stf_not]
          refine ev_istore dX5_worth_58 (by decide) rfl ?_
          refine ev_aload_n dX5_worth_60 rfl ?_
          refine ev_iload dX5_worth_61 rfl ?_
          refine ev_iload_n dX5_worth_63 rfl ?_
          refine ev_ldc (z := 1000000) dX5_worth_64 kcX5_153 (by decide) ?_
          refine ev_callV (c_X5_eatenWith (n := m) Hτ (by omega) (by omega) (by omega)) okX5_eatenWith dX5_worth_66 mlX5_187 rfl rfl ⟨by decide, by decide⟩ rfl (Nat.le_of_ble_eq_true rfl) (fun r66 τ66 h66 => ?_)
          obtain ⟨d, hd, rfl, f2, f3⟩ := h66
          have edb := eatN_bd (pr := bitp (stf (fun l => !decide (τ (1 + 7) l = k)) nl)) Hτ d
          have edm : d = m := by omega
          subst edm
          have ee : eatN (wn τ 1) (bitp (stf (fun l => !decide (τ (1 + 7) l = k)) nl)) d = e k := by
            rw [ew, ← hee]
            refine eatN_prc (fun l hl => ?_) d
            have hl2 : l < nl := by rw [show wn σ 1 0 8 = σ 1 8 from rfl, hnl2] at hl; exact hl
            rw [bitp_stf _ hl2]
            show (!decide (τ 8 l = k)) = (!decide (σ 8 l = k))
            rw [sc 8 (by omega)]
          rw [ee]
          have sc2 : sameC σ τ66 := fun a ha => by rw [f3 a ha]; exact sc a ha
          refine ev_istore dX5_worth_69 (by decide) rfl ?_
          refine ev_iload dX5_worth_71 rfl ?_
          refine ev_iload_n dX5_worth_73 rfl ?_
          refine ev_icmp_le (tgt := 83) dX5_worth_74 (by decide) (by omega) (by omega) (fun c74 => ?_) (fun c74 => ?_)
          · refine ev_iinc dX5_worth_83 rfl (by decide) rfl ?_
            refine ev_goto (tgt := 27) dX5_worth_86 (by decide) ?_
            have ea : amx e E (k + 1) = amx e E k := by
              show (if (if amx e E k < 0 then E else e (amx e E k)) < e k then (k : Int) else amx e E k) = _
              rw [← hmo, if_neg (by omega)]
            exact ih (k + 1) τ66 mo _ rfl rfl (by rw [ea]; rfl) rfl rfl (by omega) (by rw [ea]; exact hmo) sc2
          · have ea : amx e E (k + 1) = k := by
              show (if (if amx e E k < 0 then E else e (amx e E k)) < e k then (k : Int) else amx e E k) = _
              rw [← hmo, if_pos (by omega)]
            refine ev_iload dX5_worth_77 rfl ?_
            refine ev_istore_n dX5_worth_79 (by decide) rfl ?_
            refine ev_iload dX5_worth_80 rfl ?_
            refine ev_istore_n dX5_worth_82 (by decide) rfl ?_
            refine ev_iinc dX5_worth_83 rfl (by decide) rfl ?_
            refine ev_goto (tgt := 27) dX5_worth_86 (by decide) ?_
            exact ih (k + 1) τ66 (e k) _ rfl rfl (by rw [ea]; rfl) rfl rfl (by omega) (by rw [ea, if_neg (by omega)]) sc2
    refine ev_iconst dX5_worth_16 ?_
    refine ev_istore_n dX5_worth_17 (by decide) rfl ?_
    refine ev_aload_n dX5_worth_18 rfl ?_
    refine ev_iload_n dX5_worth_19 rfl ?_
    refine ev_callV (c_X5_eatenAsItIs (n := m) H (by omega)) okX5_eatenAsItIs dX5_worth_20 mlX5_171 rfl rfl ⟨by decide, by decide⟩ rfl (Nat.le_of_ble_eq_true rfl) (fun r20 τ20 h20 => ?_)
    obtain ⟨rfl, e1, e2⟩ := h20
    rw [hE]
    refine ev_istore_n dX5_worth_23 (by decide) rfl ?_
    refine ev_iconst dX5_worth_24 ?_
    refine ev_istore dX5_worth_25 (by decide) rfl ?_
    exact loop ns 0 _ E _ rfl rfl rfl rfl rfl (by omega) (by rw [if_pos (by simp [amx])]) e2
  · rw [if_neg (by omega)]
    refine ev_aload_n dX5_worth_10 rfl ?_
    refine ev_iconst dX5_worth_11 ?_
    refine ev_V1 (c_X5_finding (by omega)) okX5_finding dX5_worth_12 mlX5_55 rfl rfl ⟨by decide, by decide⟩ rfl (Nat.le_of_ble_eq_true rfl) ?_
    refine ev_iret dX5_worth_15 rfl rfl ?_
    exact ⟨rfl, sameC_rf⟩
/-! two that had best change places -/
def swi (e : Int → Int → Int) (l : Int) (st : Int × Int) : Nat → Int × Int
  | 0 => st
  | j + 1 => if e l (l + 1 + j) < (swi e l st j).2 then (10 * l + (l + 1 + j), e l (l + 1 + j)) else swi e l st j
def swo (e : Int → Int → Int) (e0 : Int) (n : Nat) : Nat → Int × Int
  | 0 => (-1, e0)
  | i + 1 => swi e i (swo e e0 n i) (n - 1 - i)
theorem swi_congr {e e' : Int → Int → Int} {l : Int} {st : Int × Int} : ∀ {n : Nat}, (∀ j : Nat, j < n → e l (l + 1 + j) = e' l (l + 1 + j)) → swi e l st n = swi e' l st n
  | 0, _ => rfl
  | n + 1, h => by
    have ih := swi_congr (l := l) (st := st) (n := n) (fun j hj => h j (by omega))
    unfold swi
    rw [ih, h n (by omega)]
theorem swo_congr {e e' : Int → Int → Int} {e0 : Int} {n : Nat} (h : ∀ l o : Nat, l < n → o < n → e l o = e' l o) : ∀ {i : Nat}, i ≤ n → swo e e0 n i = swo e' e0 n i
  | 0, _ => rfl
  | i + 1, hi => by
    show swi e i (swo e e0 n i) (n - 1 - i) = swi e' i (swo e' e0 n i) (n - 1 - i)
    rw [swo_congr h (by omega)]
    refine swi_congr (fun j hj => ?_)
    have := h i (i + 1 + j) (by omega) (by omega)
    rw [show ((i + 1 + j : Nat) : Int) = (i : Int) + 1 + j by omega] at this
    exact this
theorem swi_bd {e : Int → Int → Int} {l : Int} {st : Int × Int} (he : ∀ l o, 0 ≤ e l o ∧ e l o ≤ 1000000) (hl : 0 ≤ l) (hst : (-1 ≤ st.1 ∧ st.1 ≤ 1000) ∧ 0 ≤ st.2 ∧ st.2 ≤ 1000000) (hl2 : l ≤ 8) : ∀ j : Nat, j ≤ 8 → (-1 ≤ (swi e l st j).1 ∧ (swi e l st j).1 ≤ 1000) ∧ 0 ≤ (swi e l st j).2 ∧ (swi e l st j).2 ≤ 1000000
  | 0, _ => hst
  | j + 1, hj => by
    have ih := swi_bd he hl hst hl2 j (by omega)
    have q := he l (l + 1 + j)
    unfold swi
    split
    · simp only []; omega
    · exact ih
def sc_swap (σ : ev_M) (n : Int) : Int × ev_M := if 1 ≤ n ∧ n ≤ 20 then (if (swo (fun l o => eatN (swP (wn σ 1) l o) allp n.toNat) (eatN (wn σ 1) allp n.toNat) (σ 1 8).toNat (σ 1 8).toNat).1 < 0 then (-1000000004, fnd σ 3) else ((swo (fun l o => eatN (swP (wn σ 1) l o) allp n.toNat) (eatN (wn σ 1) allp n.toNat) (σ 1 8).toNat (σ 1 8).toNat).1, σ)) else (-1000000001, fnd σ 0)
theorem c_X5_swap {b : ev_B} {σ : ev_M} {n : Int} (H : okP (wn σ 1)) (h1 : (-2147483648 ≤ n ∧ n < 2147483648)) : Cl b mX5_swap [vR 0, vI n] σ (fun r τ => r = some (vI (sc_swap σ n).1) ∧ sameC (sc_swap σ n).2 τ) := by
  refine ev_enter okX5_swap.1 (Nat.le_of_ble_eq_true rfl) ?_
  have h0 := ok0 H
  unfold sc_swap
  refine ev_iload_n dX5_swap_0 rfl ?_
  refine ev_iconst dX5_swap_1 ?_
  refine ev_bipush dX5_swap_2 (by decide) ?_
  refine ev_Sbne (tgt := 16) (c_X5_isWithin (by omega) (by omega) (by omega)) okX5_isWithin dX5_swap_4 mlX5_51 ⟨by decide, by decide⟩ rfl (Nat.le_of_ble_eq_true rfl) dX5_swap_7 (by decide) (fun c4 => ?_) (fun c4 => ?_)
  · rw [if_pos (by omega)]
    obtain ⟨m, hm, hm2⟩ := nn_ex (x := n) (by omega)
    subst hm
    rw [hm2]
    obtain ⟨nl, hnl, hnl2⟩ := nn_ex h0.2.2.2.1
    rw [hnl2]
    have eb := eatN_bd (pr := allp) H m
    generalize hE : eatN (wn σ 1) allp m = E at eb ⊢
    generalize hee : (fun l o => eatN (swP (wn σ 1) l o) allp m) = e
    have hok : ∀ l o : Int, 0 ≤ l ∧ l < nl → 0 ≤ o ∧ o < nl → okP (swP (wn σ 1) l o) := by
      intro l o hl ho
      have q1 := okl1 H (l := l) (by omega)
      have q2 := okl1 H (l := o) (by omega)
      exact okP_mup6 (okP_mup6 H q2.1) q1.1
    have heb : ∀ l o : Int, 0 ≤ l ∧ l < nl → 0 ≤ o ∧ o < nl → 0 ≤ e l o ∧ e l o ≤ 800 := by
      intro l o hl ho
      have := eatN_bd (pr := allp) (hok l o hl ho) m
      rw [← hee]
      simp only []
      omega
    generalize hR : (fun r τ => r = some (vI (if (swo e E nl nl).1 < 0 then (-1000000004, fnd σ 3) else ((swo e E nl nl).1, σ)).1) ∧ sameC (if (swo e E nl nl).1 < 0 then (-1000000004, fnd σ 3) else ((swo e E nl nl).1, σ)).2 τ) = R
    have inner : ∀ (i : Nat) (st : Int × Int), i < nl → (∀ j : Nat, j ≤ nl - 1 - i → 0 ≤ (swi e i st j).2 ∧ (swi e i st j).2 ≤ 1000000) → (∀ (τ : ev_M) (ls : List (Nat × ev_V)), ev_lk ls 0 = some (vR 0) → ev_lk ls 1 = some (vI m) → ev_lk ls 2 = some (vI (swi e i st (nl - 1 - i)).1) → ev_lk ls 3 = some (vI (swi e i st (nl - 1 - i)).2) → ev_lk ls 4 = some (vI i) → sameC σ τ → Ev b mX5_swap 93 ls [] τ R) → ∀ (k j : Nat) (τ : ev_M) (ls : List (Nat × ev_V)), ev_lk ls 0 = some (vR 0) → ev_lk ls 1 = some (vI m) → ev_lk ls 2 = some (vI (swi e i st j).1) → ev_lk ls 3 = some (vI (swi e i st j).2) → ev_lk ls 4 = some (vI i) → ev_lk ls 5 = some (vI ((i : Int) + 1 + j)) → i + 1 + j + k = nl → sameC σ τ → Ev b mX5_swap 45 ls [] τ R := by
      intro i st hi hbd K k
      induction k with
      | zero =>
        intro j τ ls l0 l1 l2 l3 l4 l5 hk sc
        refine Ev.lsub (ls' := [(0, vR 0), (1, vI m), (2, vI (swi e i st j).1), (3, vI (swi e i st j).2), (4, vI i), (5, vI ((i : Int) + 1 + j))]) (by simp [l0, l1, l2, l3, l4, l5]) ?_
        have e8 : τ 1 8 = nl := by rw [sc 1 (by omega)]; exact hnl
        have ej : j = nl - 1 - i := by omega
        subst ej
        refine ev_iload dX5_swap_45 rfl ?_
        refine ev_aload_n dX5_swap_47 rfl ?_
        refine ev_getr 0 dX5_swap_48 rfl rfl flX5_10 iwX5 (by decide) rfl ?_
        refine ev_geti 8 8 dX5_swap_51 rfl rfl flX5_121 iwX2 (by decide) rfl rfl ?_
        refine ev_icmp_ge (tgt := 93) dX5_swap_54 (by decide) (by omega) (by omega) (fun c54 => ?_) (fun c54 => ?_)
        · exact K τ _ rfl rfl rfl rfl rfl sc
        · exact absurd c54 (by omega)
      | succ k ih =>
        intro j τ ls l0 l1 l2 l3 l4 l5 hk sc
        refine Ev.lsub (ls' := [(0, vR 0), (1, vI m), (2, vI (swi e i st j).1), (3, vI (swi e i st j).2), (4, vI i), (5, vI ((i : Int) + 1 + j))]) (by simp [l0, l1, l2, l3, l4, l5]) ?_
        have e8 : τ 1 8 = nl := by rw [sc 1 (by omega)]; exact hnl
        have ew : wn τ 1 = wn σ 1 := wn_congr (fun x hx => sc (1 + x) (by omega))
        have Hτ : okP (wn τ 1) := by rw [ew]; exact H
        have bd := hbd j (by omega)
        have Ho := hok i ((i : Int) + 1 + j) (by omega) (by omega)
        have ebb := heb i ((i : Int) + 1 + j) (by omega) (by omega)
        refine ev_iload dX5_swap_45 rfl ?_
        refine ev_aload_n dX5_swap_47 rfl ?_
        refine ev_getr 0 dX5_swap_48 rfl rfl flX5_10 iwX5 (by decide) rfl ?_
        refine ev_geti 8 8 dX5_swap_51 rfl rfl flX5_121 iwX2 (by decide) rfl rfl ?_
        refine ev_icmp_ge (tgt := 93) dX5_swap_54 (by decide) (by omega) (by omega) (fun c54 => ?_) (fun c54 => ?_)
        · exact absurd c54 (by omega)
        · refine ev_aload_n dX5_swap_57 rfl ?_
          refine ev_iload dX5_swap_58 rfl ?_
          refine ev_iload dX5_swap_60 rfl ?_
          refine ev_iload_n dX5_swap_62 rfl ?_
          refine ev_iload_n dX5_swap_63 rfl ?_
          refine ev_callV (c_X5_eatenSwapped (n := m) Hτ (by omega) (by omega) (by omega) (by omega)) okX5_eatenSwapped dX5_swap_64 mlX5_194 rfl rfl ⟨by decide, by decide⟩ rfl (Nat.le_of_ble_eq_true rfl) (fun r64 τ64 h64 => ?_)
          obtain ⟨d, hd, rfl, f2, f3⟩ := h64
          rw [ew] at f2 ⊢
          have mono := eatN_mono (pr := allp) Ho (m := d) (m - d)
          rw [show d + (m - d) = m by omega] at mono
          have eN : eatN (swP (wn σ 1) i ((i : Int) + 1 + j)) allp m = e i ((i : Int) + 1 + j) := by rw [← hee]
          rw [eN] at mono
          have db := eatN_bd (pr := allp) Ho d
          have sc2 : sameC σ τ64 := fun a ha => by rw [f3 a ha]; exact sc a ha
          refine ev_istore dX5_swap_67 (by decide) rfl ?_
          refine ev_iload dX5_swap_69 rfl ?_
          refine ev_iload_n dX5_swap_71 rfl ?_
          refine ev_icmp_ge (tgt := 87) dX5_swap_72 (by decide) (by omega) (by omega) (fun c72 => ?_) (fun c72 => ?_)
          · refine ev_iinc dX5_swap_87 rfl (by decide) rfl ?_
            refine ev_goto (tgt := 45) dX5_swap_90 (by decide) ?_
            have es : swi e i st (j + 1) = swi e i st j := by
              show (if e i ((i : Int) + 1 + j) < (swi e i st j).2 then _ else swi e i st j) = _
              rw [if_neg (by omega)]
            refine ih (j + 1) τ64 _ rfl rfl (by rw [es]; rfl) (by rw [es]; rfl) rfl ?_ (by omega) sc2
            show some (vI _) = some (vI _)
            congr 2
            try omega
          · have edn : eatN (swP (wn σ 1) i ((i : Int) + 1 + j)) allp d = e i ((i : Int) + 1 + j) := by
              rcases f2 with q | q
              · rw [q, eN]
              · exact absurd q (by omega)
            have es : swi e i st (j + 1) = (10 * (i : Int) + ((i : Int) + 1 + j), e i ((i : Int) + 1 + j)) := by
              show (if e i ((i : Int) + 1 + j) < (swi e i st j).2 then _ else swi e i st j) = _
              rw [if_pos (by omega)]
            rw [edn]
            refine ev_iload dX5_swap_75 rfl ?_
            refine ev_istore_n dX5_swap_77 (by decide) rfl ?_
            refine ev_bipush dX5_swap_78 (by decide) ?_
            refine ev_iload dX5_swap_80 rfl ?_
            refine ev_imul dX5_swap_82 ?_
            refine ev_iload dX5_swap_83 rfl ?_
            refine ev_iadd dX5_swap_85 ?_
            refine ev_istore_n dX5_swap_86 (by decide) rfl ?_
            refine ev_iinc dX5_swap_87 rfl (by decide) rfl ?_
            refine ev_goto (tgt := 45) dX5_swap_90 (by decide) ?_
            refine ih (j + 1) τ64 _ rfl rfl (by rw [es]; rfl) (by rw [es]; rfl) rfl ?_ (by omega) sc2
            show some (vI _) = some (vI _)
            congr 2
            try omega
    have sob : ∀ i : Nat, i ≤ nl → (-1 ≤ (swo e E nl i).1 ∧ (swo e E nl i).1 ≤ 1000) ∧ 0 ≤ (swo e E nl i).2 ∧ (swo e E nl i).2 ≤ 1000000 := by
      have hc : ∀ i : Nat, i ≤ nl → swo e E nl i = swo (fun l o => min 1000000 (max 0 (e l o))) E nl i := fun i hi => swo_congr (fun l o hl ho => by have := heb l o (by omega) (by omega); omega) hi
      intro i
      induction i with
      | zero => intro _; simp only [swo]; omega
      | succ i ih =>
        intro hi
        have q := ih (by omega)
        rw [hc _ (by omega)] at q ⊢
        exact swi_bd (fun l o => by omega) (by omega) q (by omega) _ (by omega)
    have outer : ∀ (k i : Nat) (τ : ev_M) (ls : List (Nat × ev_V)), ev_lk ls 0 = some (vR 0) → ev_lk ls 1 = some (vI m) → ev_lk ls 2 = some (vI (swo e E nl i).1) → ev_lk ls 3 = some (vI (swo e E nl i).2) → ev_lk ls 4 = some (vI i) → i + k = nl → sameC σ τ → Ev b mX5_swap 27 ls [] τ R := by
      intro k
      induction k with
      | zero =>
        intro i τ ls l0 l1 l2 l3 l4 hk sc
        refine Ev.lsub (ls' := [(0, vR 0), (1, vI m), (2, vI (swo e E nl i).1), (3, vI (swo e E nl i).2), (4, vI i)]) (by simp [l0, l1, l2, l3, l4]) ?_
        have e8 : τ 1 8 = nl := by rw [sc 1 (by omega)]; exact hnl
        have ei : i = nl := by omega
        subst ei
        have sb := sob i (by omega)
        refine ev_iload dX5_swap_27 rfl ?_
        refine ev_aload_n dX5_swap_29 rfl ?_
        refine ev_getr 0 dX5_swap_30 rfl rfl flX5_10 iwX5 (by decide) rfl ?_
        refine ev_geti 8 8 dX5_swap_33 rfl rfl flX5_121 iwX2 (by decide) rfl rfl ?_
        refine ev_icmp_ge (tgt := 99) dX5_swap_36 (by decide) (by omega) (by omega) (fun c36 => ?_) (fun c36 => ?_)
        · rw [← hR]
          refine ev_iload_n dX5_swap_99 rfl ?_
          refine ev_if_ge (tgt := 111) dX5_swap_100 (by decide) (by omega) (fun c100 => ?_) (fun c100 => ?_)
          · rw [if_neg (by omega)]
            refine ev_iload_n dX5_swap_111 rfl ?_
            refine ev_iret dX5_swap_112 rfl rfl ?_
            exact ⟨rfl, sc⟩
          · rw [if_pos (by omega)]
            refine ev_aload_n dX5_swap_103 rfl ?_
            refine ev_iconst dX5_swap_104 ?_
            refine ev_V1 (c_X5_finding (by omega)) okX5_finding dX5_swap_105 mlX5_55 rfl rfl ⟨by decide, by decide⟩ rfl (Nat.le_of_ble_eq_true rfl) ?_
            refine ev_goto (tgt := 112) dX5_swap_108 (by decide) ?_
            refine ev_iret dX5_swap_112 rfl rfl ?_
            exact ⟨rfl, sameC_fnd sc⟩
        · exact absurd c36 (by omega)
      | succ k ih =>
        intro i τ ls l0 l1 l2 l3 l4 hk sc
        refine Ev.lsub (ls' := [(0, vR 0), (1, vI m), (2, vI (swo e E nl i).1), (3, vI (swo e E nl i).2), (4, vI i)]) (by simp [l0, l1, l2, l3, l4]) ?_
        have e8 : τ 1 8 = nl := by rw [sc 1 (by omega)]; exact hnl
        refine ev_iload dX5_swap_27 rfl ?_
        refine ev_aload_n dX5_swap_29 rfl ?_
        refine ev_getr 0 dX5_swap_30 rfl rfl flX5_10 iwX5 (by decide) rfl ?_
        refine ev_geti 8 8 dX5_swap_33 rfl rfl flX5_121 iwX2 (by decide) rfl rfl ?_
        refine ev_icmp_ge (tgt := 99) dX5_swap_36 (by decide) (by omega) (by omega) (fun c36 => ?_) (fun c36 => ?_)
        · exact absurd c36 (by omega)
        · refine ev_iload dX5_swap_39 rfl ?_
          refine ev_iconst dX5_swap_41 ?_
          refine ev_iadd dX5_swap_42 ?_
          refine ev_istore dX5_swap_43 (by decide) rfl ?_
          refine inner i (swo e E nl i) (by omega) ?_ ?_ (nl - 1 - i) 0 τ _ rfl rfl rfl rfl rfl ?_ (by omega) sc
          · intro j hj
            have hc : swi e i (swo e E nl i) j = swi (fun l o => min 1000000 (max 0 (e l o))) i (swo e E nl i) j := swi_congr (fun x hx => by have := heb i ((i : Int) + 1 + x) (by omega) (by omega); omega)
            rw [hc]
            exact (swi_bd (fun l o => by omega) (by omega) (sob i (by omega)) (by omega) j (by omega)).2
          · intro τ' ls' k0 k1 k2 k3 k4 sc'
            refine Ev.lsub (ls' := [(0, vR 0), (1, vI m), (2, vI (swo e E nl (i + 1)).1), (3, vI (swo e E nl (i + 1)).2), (4, vI i)]) (by simp [k0, k1, k2, k3, k4, swo]) ?_
            refine ev_iinc dX5_swap_93 rfl (by decide) rfl ?_
            refine ev_goto (tgt := 27) dX5_swap_96 (by decide) ?_
            exact ih (i + 1) τ' _ rfl rfl rfl rfl rfl (by omega) sc'
          · show some (vI _) = some (vI _)
            congr 2
            try omega
    refine ev_iconst dX5_swap_16 ?_
    refine ev_istore_n dX5_swap_17 (by decide) rfl ?_
    refine ev_aload_n dX5_swap_18 rfl ?_
    refine ev_iload_n dX5_swap_19 rfl ?_
    refine ev_callV (c_X5_eatenAsItIs (n := m) H (by omega)) okX5_eatenAsItIs dX5_swap_20 mlX5_171 rfl rfl ⟨by decide, by decide⟩ rfl (Nat.le_of_ble_eq_true rfl) (fun r20 τ20 h20 => ?_)
    obtain ⟨rfl, e1, e2⟩ := h20
    rw [hE]
    refine ev_istore_n dX5_swap_23 (by decide) rfl ?_
    refine ev_iconst dX5_swap_24 ?_
    refine ev_istore dX5_swap_25 (by decide) rfl ?_
    exact outer nl 0 _ _ rfl rfl rfl rfl rfl (by omega) e2
  · rw [if_neg (by omega)]
    refine ev_aload_n dX5_swap_10 rfl ?_
    refine ev_iconst dX5_swap_11 ?_
    refine ev_V1 (c_X5_finding (by omega)) okX5_finding dX5_swap_12 mlX5_55 rfl rfl ⟨by decide, by decide⟩ rfl (Nat.le_of_ble_eq_true rfl) ?_
    refine ev_iret dX5_swap_15 rfl rfl ?_
    exact ⟨rfl, sameC_rf⟩
/-! where one had best be moved -/
def apk (P : ev_M) (l : Int) (c : Int) : Int := 100 * mts (mup P 6 l c) allp (P 7 l) (P 0 8).toNat + sp_dist (P 6 l) c
def sc_apart (σ : ev_M) (l : Int) : Int × ev_M := if 0 ≤ l ∧ l ≤ σ 1 8 - 1 then (amn (apk (wn σ 1) l) 48, σ) else (-1000000001, fnd σ 0)
theorem dist_self {a c : Int} (ha : 0 ≤ a ∧ a < 48) (hc : 0 ≤ c ∧ c < 48) : sp_dist a c = 0 ↔ c = a := by
  unfold sp_dist sp_abs
  omega
theorem mup_id {P : ev_M} {j : Nat} {i : Int} : mup P j i (P j i) = P := by
  funext a x
  unfold mup
  split
  · rename_i h; rw [h.1, h.2]
  · rfl
theorem mup_mup {P : ev_M} {j : Nat} {i v w : Int} : mup (mup P j i v) j i w = mup P j i w := by
  funext a x
  unfold mup
  split <;> rfl
theorem c_X5_apart {b : ev_B} {σ : ev_M} {l : Int} (H : okP (wn σ 1)) (h1 : (-2147483648 ≤ l ∧ l < 2147483648)) : Cl b mX5_apart [vR 0, vI l] σ (fun r τ => r = some (vI (sc_apart σ l).1) ∧ sameC (sc_apart σ l).2 τ) := by
  refine ev_enter okX5_apart.1 (Nat.le_of_ble_eq_true rfl) ?_
  have h0 := ok0 H
  unfold sc_apart
  refine ev_aload_n dX5_apart_0 rfl ?_
  refine ev_iload_n dX5_apart_1 rfl ?_
  refine ev_Vbne (tgt := 14) (c_X5_isLikeness (by omega) (by omega)) okX5_isLikeness dX5_apart_2 mlX5_128 rfl rfl ⟨by decide, by decide⟩ rfl (Nat.le_of_ble_eq_true rfl) dX5_apart_5 (by decide) (fun c2 => ?_) (fun c2 => ?_)
  · rw [if_pos (by omega)]
    have q := okl1 H (l := l) (by omega)
    obtain ⟨nl, hnl, hnl2⟩ := nn_ex h0.2.2.2.1
    generalize hfr : σ 7 l = fr at q
    generalize how : σ 8 l = ow at q
    generalize hme : (fun c => mts (mup (wn σ 1) 6 l c) allp ow nl) = me
    have meb : ∀ c, 0 ≤ me c ∧ me c ≤ 64 := fun c => by rw [← hme]; exact mts_bd _ _ _ (by omega)
    have hkey : ∀ c, apk (wn σ 1) l c = 100 * me c + sp_dist fr c := by
      intro c
      unfold apk
      rw [show wn σ 1 7 l = σ 8 l from rfl, show wn σ 1 6 l = σ 7 l from rfl, show wn σ 1 0 8 = σ 1 8 from rfl, hnl2, how, hfr, ← hme]
    have mefr : mts (wn σ 1) allp ow nl = me fr := by
      rw [← hme, ← hfr]
      show _ = mts (mup (wn σ 1) 6 l (wn σ 1 6 l)) allp ow nl
      rw [mup_id]
    -- the best so far, against where it stands
    have loop : ∀ (k i : Nat) (τ : ev_M) (be fe ne : Int) (ls : List (Nat × ev_V)), ev_lk ls 0 = some (vR 0) → ev_lk ls 1 = some (vI l) → ev_lk ls 2 = some (vI ow) → ev_lk ls 3 = some (vI fr) → ev_lk ls 4 = some (vI be) → ev_lk ls 5 = some (vI fe) → ev_lk ls 6 = some (vI ne) → ev_lk ls 7 = some (vI i) → i + k = 48 → (fe = me be ∧ ne = sp_dist fr be ∧ (0 ≤ be ∧ be < 48)) → ((be = fr ∧ ∀ c : Nat, c < i → 100 * me fr + 0 ≤ 100 * me c + sp_dist fr c) ∨ (be = amn (apk (wn σ 1) l) i ∧ i ≠ 0 ∧ 100 * me be + sp_dist fr be < 100 * me fr)) → (∃ x, eqP (wn τ 19) (mup (wn σ 1) 6 l x)) → sameC σ τ → Ev b mX5_apart 64 ls [] τ (fun r τ => r = some (vI (amn (apk (wn σ 1) l) 48)) ∧ sameC σ τ) := by
      intro k
      induction k with
      | zero =>
        intro i τ be fe ne ls l0 l1 l2 l3 l4 l5 l6 l7 hk hb hc hx sc
        refine Ev.lsub (ls' := [(0, vR 0), (1, vI l), (2, vI ow), (3, vI fr), (4, vI be), (5, vI fe), (6, vI ne), (7, vI i)]) (by simp [l0, l1, l2, l3, l4, l5, l6, l7]) ?_
        refine ev_iload dX5_apart_64 rfl ?_
        refine ev_bipush dX5_apart_66 (by decide) ?_
        refine ev_icmp_ge (tgt := 139) dX5_apart_68 (by decide) (by omega) (by omega) (fun c68 => ?_) (fun c68 => ?_)
        · refine ev_iload dX5_apart_139 rfl ?_
          refine ev_iret dX5_apart_141 rfl rfl ?_
          refine ⟨?_, sc⟩
          have ei : i = 48 := by omega
          subst ei
          rcases hc with ⟨e1, e2⟩ | ⟨e1, e2, e3⟩
          · have ab := amn_bd (apk (wn σ 1) l) 48
            have a1 := e2 (amn (apk (wn σ 1) l) 48).toNat (by omega)
            have a2 := amn_le (e := apk (wn σ 1) l) (n := 48) (i := fr.toNat) (by omega)
            rw [show (((amn (apk (wn σ 1) l) 48).toNat : Nat) : Int) = amn (apk (wn σ 1) l) 48 by omega] at a1
            rw [show ((fr.toNat : Nat) : Int) = fr by omega, hkey, hkey fr] at a2
            have d0 := (dist_self (a := fr) (c := fr) (by omega) (by omega)).mpr rfl
            have d1 := sp_dist_bd (a := fr) (c := amn (apk (wn σ 1) l) 48) (by omega) (by omega)
            have m1 := meb fr
            have m2 := meb (amn (apk (wn σ 1) l) 48)
            have d2 := (dist_self (a := fr) (c := amn (apk (wn σ 1) l) 48) (by omega) (by omega)).mp (by omega)
            rw [e1, ← d2]
          · rw [e1]
        · exact absurd c68 (by omega)
      | succ k ih =>
        intro i τ be fe ne ls l0 l1 l2 l3 l4 l5 l6 l7 hk hb hc hx sc
        refine Ev.lsub (ls' := [(0, vR 0), (1, vI l), (2, vI ow), (3, vI fr), (4, vI be), (5, vI fe), (6, vI ne), (7, vI i)]) (by simp [l0, l1, l2, l3, l4, l5, l6, l7]) ?_
        obtain ⟨x, hx⟩ := hx
        have g3 : eqP (wn (mup τ (19 + 6) l i) 19) (mup (wn σ 1) 6 l i) := by
          rw [wn_mup (by omega)]
          have q := eqP_mup (j := 6) (i := l) (v := i) hx (by omega)
          rw [mup_mup] at q
          exact q
        have Hk : okP (mup (wn σ 1) 6 l i) := okP_mup6 H (by omega)
        have H2 := eqP_ok g3 Hk
        have em : mts (wn (mup τ (19 + 6) l i) 19) allp ow ((mup τ (19 + 6) l i) 19 8).toNat = me i := by
          have q := eqP_mts g3 Hk ow
          rw [show wn (mup τ (19 + 6) l i) 19 0 8 = (mup τ (19 + 6) l i) 19 8 from rfl, show mup (wn σ 1) 6 l i 0 8 = σ 1 8 from rfl, hnl2] at q
          rw [q, ← hme]
        have d1 := sp_dist_bd (a := fr) (c := i) (by omega) (by omega)
        have d2 := sp_dist_bd (a := fr) (c := be) (by omega) hb.2.2
        have m1 := meb i
        have m2 := meb be
        have m3 := meb fr
        have dz := dist_self (a := fr) (c := fr) (by omega) (by omega)
        have sc2 : sameC σ (mup τ (19 + 6) l i) := fun a ha => by rw [fr1 (by omega)]; exact sc a ha
        have keep : ¬ (me i < fe ∨ (me i = fe ∧ sp_dist fr i < ne)) → ∀ ls : List (Nat × ev_V), ev_lk ls 0 = some (vR 0) → ev_lk ls 1 = some (vI l) → ev_lk ls 2 = some (vI ow) → ev_lk ls 3 = some (vI fr) → ev_lk ls 4 = some (vI be) → ev_lk ls 5 = some (vI fe) → ev_lk ls 6 = some (vI ne) → ev_lk ls 7 = some (vI i) → Ev b mX5_apart 133 ls [] (mup τ (19 + 6) l i) (fun r τ => r = some (vI (amn (apk (wn σ 1) l) 48)) ∧ sameC σ τ) := by
          intro hno ls l0 l1 l2 l3 l4 l5 l6 l7
          refine Ev.lsub (ls' := [(0, vR 0), (1, vI l), (2, vI ow), (3, vI fr), (4, vI be), (5, vI fe), (6, vI ne), (7, vI i)]) (by simp [l0, l1, l2, l3, l4, l5, l6, l7]) ?_
          refine ev_iinc dX5_apart_133 rfl (by decide) rfl ?_
          refine ev_goto (tgt := 64) dX5_apart_136 (by decide) ?_
          refine ih (i + 1) _ be fe ne _ rfl rfl rfl rfl rfl rfl rfl rfl (by omega) hb ?_ ⟨i, g3⟩ sc2
          rcases hc with ⟨e1, e2⟩ | ⟨e1, e2, e3⟩
          · refine Or.inl ⟨e1, fun c hc => ?_⟩
            rcases Nat.lt_or_ge c i with w | w
            · exact e2 c w
            · have : c = i := by omega
              subst this
              subst e1
              have := dz.mpr rfl
              omega
          · refine Or.inr ⟨?_, by omega, e3⟩
            rw [amn_s e2, if_neg, e1]
            rw [hkey, hkey, ← e1]
            omega
        have move : (me i < fe ∨ (me i = fe ∧ sp_dist fr i < ne)) → ∀ ls : List (Nat × ev_V), ev_lk ls 0 = some (vR 0) → ev_lk ls 1 = some (vI l) → ev_lk ls 2 = some (vI ow) → ev_lk ls 3 = some (vI fr) → ev_lk ls 4 = some (vI be) → ev_lk ls 5 = some (vI fe) → ev_lk ls 6 = some (vI ne) → ev_lk ls 7 = some (vI i) → ev_lk ls 8 = some (vI (me i)) → ev_lk ls 9 = some (vI (sp_dist fr i)) → Ev b mX5_apart 121 ls [] (mup τ (19 + 6) l i) (fun r τ => r = some (vI (amn (apk (wn σ 1) l) 48)) ∧ sameC σ τ) := by
          intro hyes ls l0 l1 l2 l3 l4 l5 l6 l7 l8 l9
          refine Ev.lsub (ls' := [(0, vR 0), (1, vI l), (2, vI ow), (3, vI fr), (4, vI be), (5, vI fe), (6, vI ne), (7, vI i), (8, vI (me i)), (9, vI (sp_dist fr i))]) (by simp [l0, l1, l2, l3, l4, l5, l6, l7, l8, l9]) ?_
          refine ev_iload dX5_apart_121 rfl ?_
          refine ev_istore dX5_apart_123 (by decide) rfl ?_
          refine ev_iload dX5_apart_125 rfl ?_
          refine ev_istore dX5_apart_127 (by decide) rfl ?_
          refine ev_iload dX5_apart_129 rfl ?_
          refine ev_istore dX5_apart_131 (by decide) rfl ?_
          refine ev_iinc dX5_apart_133 rfl (by decide) rfl ?_
          refine ev_goto (tgt := 64) dX5_apart_136 (by decide) ?_
          refine ih (i + 1) _ i (me i) (sp_dist fr i) _ rfl rfl rfl rfl rfl rfl rfl rfl (by omega) ⟨rfl, rfl, by omega⟩ (Or.inr ⟨?_, by omega, ?_⟩) ⟨i, g3⟩ sc2
          · by_cases hi0 : i = 0
            · subst hi0; rfl
            · have ab := amn_bd (apk (wn σ 1) l) i
              rw [amn_s hi0, if_pos]
              rw [hkey, hkey]
              rcases hc with ⟨e1, e2⟩ | ⟨e1, e2, e3⟩
              · have a1 := e2 (amn (apk (wn σ 1) l) i).toNat (by omega)
                rw [show (((amn (apk (wn σ 1) l) i).toNat : Nat) : Int) = amn (apk (wn σ 1) l) i by omega] at a1
                subst e1
                have := dz.mpr rfl
                omega
              · rw [← e1]
                omega
          · rcases hc with ⟨e1, e2⟩ | ⟨e1, e2, e3⟩
            · subst e1
              have := dz.mpr rfl
              omega
            · omega
        refine ev_iload dX5_apart_64 rfl ?_
        refine ev_bipush dX5_apart_66 (by decide) ?_
        refine ev_icmp_ge (tgt := 139) dX5_apart_68 (by decide) (by omega) (by omega) (fun c68 => ?_) (fun c68 => ?_)
        · exact absurd c68 (by omega)
        · refine ev_aload_n dX5_apart_71 rfl ?_
          refine ev_getr 2 dX5_apart_72 rfl rfl flX5_19 iwX5 (by decide) rfl ?_
          refine ev_getr 9 dX5_apart_75 rfl rfl flX5_131 iwX2 (by decide) rfl ?_
          refine ev_iload_n dX5_apart_78 rfl ?_
          refine ev_iload dX5_apart_79 rfl ?_
          refine ev_iast dX5_apart_81 rfl (by omega) ?_
          refine ev_aload_n dX5_apart_82 rfl ?_
          refine ev_getr 2 dX5_apart_83 rfl rfl flX5_19 iwX5 (by decide) rfl ?_
          refine ev_iload_n dX5_apart_86 rfl ?_
          refine ev_V1 (c_X2_meetings hP19 H2 (by omega)) okX2_meetings dX5_apart_87 mlX5_108 rfl rfl ⟨by decide, by decide⟩ rfl (Nat.le_of_ble_eq_true rfl) ?_
          rw [em]
          refine ev_istore dX5_apart_90 (by decide) rfl ?_
          refine ev_iload_n dX5_apart_92 rfl ?_
          refine ev_iload dX5_apart_93 rfl ?_
          refine ev_S1 (c_X5_distanceOf (by omega) (by omega)) okX5_distanceOf dX5_apart_95 mlX5_191 ⟨by decide, by decide⟩ rfl (Nat.le_of_ble_eq_true rfl) ?_
          refine ev_istore dX5_apart_98 (by decide) rfl ?_
          refine ev_iload dX5_apart_100 rfl ?_
          refine ev_iload dX5_apart_102 rfl ?_
          refine ev_icmp_lt (tgt := 121) dX5_apart_104 (by decide) (by omega) (by omega) (fun c104 => ?_) (fun c104 => ?_)
          · exact move (by omega) _ rfl rfl rfl rfl rfl rfl rfl rfl rfl rfl
          · refine ev_iload dX5_apart_107 rfl ?_
            refine ev_iload dX5_apart_109 rfl ?_
            refine ev_icmp_ne (tgt := 133) dX5_apart_111 (by decide) (by omega) (by omega) (fun c111 => ?_) (fun c111 => ?_)
            · exact keep (by omega) _ rfl rfl rfl rfl rfl rfl rfl rfl
            · refine ev_iload dX5_apart_114 rfl ?_
              refine ev_iload dX5_apart_116 rfl ?_
              refine ev_icmp_ge (tgt := 133) dX5_apart_118 (by decide) (by omega) (by omega) (fun c118 => ?_) (fun c118 => ?_)
              · exact keep (by omega) _ rfl rfl rfl rfl rfl rfl rfl rfl
              · exact move (by omega) _ rfl rfl rfl rfl rfl rfl rfl rfl rfl rfl
    refine ev_aload_n dX5_apart_14 rfl ?_
    refine ev_getr 0 dX5_apart_15 rfl rfl flX5_10 iwX5 (by decide) rfl ?_
    refine ev_getr 10 dX5_apart_18 rfl rfl flX5_134 iwX2 (by decide) rfl ?_
    refine ev_iload_n dX5_apart_21 rfl ?_
    refine ev_iald dX5_apart_22 rfl (by omega) ?_
    rw [how]
    refine ev_istore_n dX5_apart_23 (by decide) rfl ?_
    refine ev_aload_n dX5_apart_24 rfl ?_
    refine ev_getr 0 dX5_apart_25 rfl rfl flX5_10 iwX5 (by decide) rfl ?_
    refine ev_getr 9 dX5_apart_28 rfl rfl flX5_131 iwX2 (by decide) rfl ?_
    refine ev_iload_n dX5_apart_31 rfl ?_
    refine ev_iald dX5_apart_32 rfl (by omega) ?_
    rw [hfr]
    refine ev_istore_n dX5_apart_33 (by decide) rfl ?_
    refine ev_iload_n dX5_apart_34 rfl ?_
    refine ev_istore dX5_apart_35 (by decide) rfl ?_
    refine ev_aload_n dX5_apart_37 rfl ?_
    refine ev_getr 0 dX5_apart_38 rfl rfl flX5_10 iwX5 (by decide) rfl ?_
    refine ev_iload_n dX5_apart_41 rfl ?_
    refine ev_V1 (c_X2_meetings hP1 H (by omega)) okX2_meetings dX5_apart_42 mlX5_108 rfl rfl ⟨by decide, by decide⟩ rfl (Nat.le_of_ble_eq_true rfl) ?_
    rw [hnl2, mefr]
    refine ev_istore dX5_apart_45 (by decide) rfl ?_
    refine ev_iconst dX5_apart_47 ?_
    refine ev_istore dX5_apart_48 (by decide) rfl ?_
    refine ev_aload_n dX5_apart_50 rfl ?_
    refine ev_getr 2 dX5_apart_51 rfl rfl flX5_19 iwX5 (by decide) rfl ?_
    refine ev_aload_n dX5_apart_54 rfl ?_
    refine ev_getr 0 dX5_apart_55 rfl rfl flX5_10 iwX5 (by decide) rfl ?_
    refine ev_callV (c_X2_become hP19 hP1 (by decide) H) okX2_become dX5_apart_58 mlX5_174 rfl rfl ⟨by decide, by decide⟩ rfl (Nat.le_of_ble_eq_true rfl) (fun r58 τ58 h58 => ?_)
    obtain ⟨rfl, g1, g2⟩ := h58
    refine ev_iconst dX5_apart_61 ?_
    refine ev_istore dX5_apart_62 (by decide) rfl ?_
    refine loop 48 0 _ fr (me fr) 0 _ rfl rfl rfl rfl rfl rfl rfl rfl (by omega) ⟨rfl, ((dist_self (a := fr) (c := fr) (by omega) (by omega)).mpr rfl).symm, by omega⟩ (Or.inl ⟨rfl, fun c hc => absurd hc (Nat.not_lt_zero c)⟩) ⟨fr, ?_⟩ (fun a ha => g2 a (by omega))
    rw [← hfr]
    show eqP _ (mup (wn σ 1) 6 l (wn σ 1 6 l))
    rw [mup_id]
    exact g1
  · rw [if_neg (by omega)]
    refine ev_aload_n dX5_apart_8 rfl ?_
    refine ev_iconst dX5_apart_9 ?_
    refine ev_V1 (c_X5_finding (by omega)) okX5_finding dX5_apart_10 mlX5_55 rfl rfl ⟨by decide, by decide⟩ rfl (Nat.le_of_ble_eq_true rfl) ?_
    refine ev_iret dX5_apart_13 rfl rfl ?_
    exact ⟨rfl, sameC_rf⟩
