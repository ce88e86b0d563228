/-! the model's books -/
def bkR (σ : ev_M) (P : ev_M) (s k : Int) : Int → Int := fun x => if 40 * s ≤ x ∧ x < 40 * s + k then cutv (σ 56 s) (WT (dayN P allp (x - 40 * s).toNat)) else σ 58 x
theorem c_X6_book {b : ev_B} {σ : ev_M} {s : Int} (H : okP (wr (σ 47))) (HS : okSR σ) (ha : σ 46 6 = 0) (h1 : (-2147483648 ≤ s ∧ s < 2147483648)) : Cl b mX6_book [vR 46, vI s] σ (RP σ (sc_book (prj σ) s)) := by
  refine ev_enter okX6_book.1 (Nat.le_of_ble_eq_true rfl) ?_
  unfold sc_book
  rw [prj_1]
  have hb : 0 ≤ s ∧ s ≤ 3 → 0 ≤ σ 56 s ∧ σ 56 s ≤ 64 := fun h => by have := (HS s h).1; omega
  refine ev_aload_n dX6_book_0 rfl ?_
  refine ev_iload_n dX6_book_1 rfl ?_
  refine ev_V1 (c_X6_wrongSheet h1 hb) okX6_wrongSheet dX6_book_2 mlX6_318 rfl rfl ⟨by decide, by decide⟩ rfl (Nat.le_of_ble_eq_true rfl) ?_
  by_cases hs : 0 ≤ s ∧ s ≤ 3
  · have hs' : ¬ ¬ (0 ≤ s ∧ s ≤ 3) := fun z => z hs
    rw [if_neg hs', if_neg hs', pS1 hs, pS2 hs]
    obtain ⟨q1, q2, q3⟩ := HS s hs
    have hr : 37 ≤ ev_rt s.toNat ∧ ev_rt s.toNat ≤ 43 := by unfold ev_rt; omega
    by_cases h0 : σ 56 s = 0
    · rw [if_pos h0, if_pos h0]
      refine ev_istore_n dX6_book_5 (by decide) rfl ?_
      refine ev_iload_n dX6_book_6 rfl ?_
      refine ev_if_eq (tgt := 16) dX6_book_7 (by decide) (by omega) (fun c7 => ?_) (fun c7 => ?_)
      · exact absurd c7 (by omega)
      · refine ev_aload_n dX6_book_10 rfl ?_
        refine ev_iload_n dX6_book_11 rfl ?_
        refine ev_V1 (c_X6_finds (by omega)) okX6_finds dX6_book_12 mlX6_101 rfl rfl ⟨by decide, by decide⟩ rfl (Nat.le_of_ble_eq_true rfl) ?_
        refine ev_iret dX6_book_15 rfl rfl ?_
        exact RP_fnd ha
    · rw [if_neg h0, if_neg h0]
      obtain ⟨n, hn, hn2⟩ := nn_ex q2.1
      generalize hP : wr (σ 47) = P at *
      have loop : ∀ (m k : Nat) (τ : ev_M) (ls : List (Nat × ev_V)), ev_lk ls 0 = some (vR 46) → ev_lk ls 1 = some (vI s) → ev_lk ls 3 = some (vI k) → k + m = n → eqP (wr (τ 47)) (dayN P allp k) → (∀ a : Nat, a ≠ 47 → a ≠ 50 → a ≠ 58 → a < 52 ∨ 54 < a → τ a = σ a) → (∀ i : Int, 0 ≤ i ∧ i < 100 → τ 50 i = σ 47 i) → (∀ x : Int, τ 58 x = bkR σ P s k x) → Ev b mX6_book 22 ls [] τ (RP σ (σ 57 s, bkM (prj σ) P (ev_rt s.toNat) (σ 57 s))) := by
        intro m
        induction m with
        | zero =>
          intro k τ ls l0 l1 l3 h e f f50 f58
          refine Ev.lsub (ls' := [(0, vR 46), (1, vI s), (3, vI k)]) (by simp [l0, l1, l3]) ?_
          have e57 : τ 57 s = σ 57 s := by rw [f 57 (by omega) (by omega) (by omega) (by omega)]
          refine ev_iload_n dX6_book_22 rfl ?_
          refine ev_aload_n dX6_book_23 rfl ?_
          refine ev_getr 17 dX6_book_24 rfl rfl flX6_40 iwX6 (by decide) rfl ?_
          refine ev_iload_n dX6_book_27 rfl ?_
          refine ev_iald dX6_book_28 rfl (by omega) ?_
          refine ev_icmp_ge (tgt := 69) dX6_book_29 (by decide) (by omega) (by omega) (fun c29 => ?_) (fun c29 => ?_)
          · refine ev_aload_n dX6_book_69 rfl ?_
            refine ev_aload_n dX6_book_70 rfl ?_
            refine ev_getr 17 dX6_book_71 rfl rfl flX6_40 iwX6 (by decide) rfl ?_
            refine ev_iload_n dX6_book_74 rfl ?_
            refine ev_iald dX6_book_75 rfl (by omega) ?_
            rw [e57]
            refine ev_V1 c_X6_takesBack okX6_takesBack dX6_book_76 mlX6_187 rfl rfl ⟨by decide, by decide⟩ rfl (Nat.le_of_ble_eq_true rfl) ?_
            refine ev_iret dX6_book_79 rfl rfl ?_
            have ek : k = n := by omega
            subst ek
            have es : eqS (cpy τ 47 50 100 47) (σ 47) := fun i hi => by rw [cpy_at i hi]; exact f50 i hi
            have H' : okP (wr (σ 47)) := by rw [hP]; exact H
            have wa : ∀ a : Nat, a ≠ 47 → a ≠ 50 → a ≠ 58 → a < 52 ∨ 54 < a → cpy τ 47 50 100 a = σ a := fun a x1 x2 x3 x4 => by rw [cpy_ne x1]; exact f a x1 x2 x3 x4
            refine ⟨rfl, REL_sheet (σ := σ) hs (fun a x1 x2 => ?_) (by rw [wa 46 (by omega) (by omega) (by omega) (by omega)]) (by rw [wa 46 (by omega) (by omega) (by omega) (by omega)]) (eqP_symm (eqS_wr es H')) (fun a hx => wa a (by omega) (by omega) (by omega) (by omega)) (fun x hx => by rw [wa 56 (by omega) (by omega) (by omega) (by omega)]) (fun x hx => by rw [wa 57 (by omega) (by omega) (by omega) (by omega)]) (fun x hx => ?_) ?_ ?_ (fun i hi => ?_), fun a hx => wa a (by omega) (by omega) (by omega) (by omega), by rw [wa 46 (by omega) (by omega) (by omega) (by omega)]; exact ha⟩
            · exact bkM_ne x2
            · rw [cpy_ne (by decide), f58]
              unfold bkR
              rw [if_neg (by omega)]
            · show bkM (prj σ) P (ev_rt s.toNat) (σ 57 s) (ev_rt s.toNat) 1 = _
              rw [bkM_ne (by omega), wa 56 (by omega) (by omega) (by omega) (by omega), pS1 hs]
            · show bkM (prj σ) P (ev_rt s.toNat) (σ 57 s) (ev_rt s.toNat) 2 = _
              rw [bkM_ne (by omega), wa 57 (by omega) (by omega) (by omega) (by omega), pS2 hs]
            · show bkM (prj σ) P (ev_rt s.toNat) (σ 57 s) (ev_rt s.toNat + 1) i = _
              rw [cpy_ne (by decide), f58]
              unfold bkM bkR
              rw [pS1 hs, pS3 hs, hn, show 40 * s + i - 40 * s = i by omega]
              by_cases w : 0 ≤ i ∧ i < (k : Int)
              · rw [if_pos ⟨rfl, w⟩, if_pos (by omega)]
              · rw [if_neg (fun z => w z.2), if_neg (by omega)]
          · exact absurd c29 (by omega)
        | succ m ih =>
          intro k τ ls l0 l1 l3 h e f f50 f58
          refine Ev.lsub (ls' := [(0, vR 46), (1, vI s), (3, vI k)]) (by simp [l0, l1, l3]) ?_
          have e57 : τ 57 s = σ 57 s := by rw [f 57 (by omega) (by omega) (by omega) (by omega)]
          have e56 : τ 56 s = σ 56 s := by rw [f 56 (by omega) (by omega) (by omega) (by omega)]
          have Hk := okP_dayN (pr := allp) H k
          have eW : WT (wr (τ 47)) = WT (dayN P allp k) := eqP_WT e
          have wb := WT_bd Hk
          refine ev_iload_n dX6_book_22 rfl ?_
          refine ev_aload_n dX6_book_23 rfl ?_
          refine ev_getr 17 dX6_book_24 rfl rfl flX6_40 iwX6 (by decide) rfl ?_
          refine ev_iload_n dX6_book_27 rfl ?_
          refine ev_iald dX6_book_28 rfl (by omega) ?_
          refine ev_icmp_ge (tgt := 69) dX6_book_29 (by decide) (by omega) (by omega) (fun c29 => ?_) (fun c29 => ?_)
          · exact absurd c29 (by omega)
          · refine ev_aload_n dX6_book_32 rfl ?_
            refine ev_getr 18 dX6_book_33 rfl rfl flX6_43 iwX6 (by decide) rfl ?_
            refine ev_bipush dX6_book_36 (by decide) ?_
            refine ev_iload_n dX6_book_38 rfl ?_
            refine ev_imul dX6_book_39 ?_
            refine ev_iload_n dX6_book_40 rfl ?_
            refine ev_iadd dX6_book_41 ?_
            refine ev_aload_n dX6_book_42 rfl ?_
            refine ev_getr 16 dX6_book_43 rfl rfl flX6_37 iwX6 (by decide) rfl ?_
            refine ev_iload_n dX6_book_46 rfl ?_
            refine ev_iald dX6_book_47 rfl (by omega) ?_
            rw [e56]
            refine ev_aload_n dX6_book_48 rfl ?_
            refine ev_V1 c_X6_wheatAll okX6_wheatAll dX6_book_49 mlX6_172 rfl rfl ⟨by decide, by decide⟩ rfl (Nat.le_of_ble_eq_true rfl) ?_
            rw [eW]
            refine ev_i2l dX6_book_52 (by omega) ?_
            refine ev_S1 (c_X6_narrowed q1) okX6_narrowed dX6_book_53 mlX6_321 ⟨by decide, by decide⟩ rfl (Nat.le_of_ble_eq_true rfl) ?_
            refine ev_last dX6_book_56 rfl (by omega) ?_
            generalize hω : mup τ 58 (40 * s + k) (cutv (σ 56 s) (WT (dayN P allp k))) = ω
            have w47 : ω 47 = τ 47 := by rw [← hω, mup_ne (by decide)]
            have w46 : ω 46 6 = 0 := by rw [← hω, mup_ne (by decide), f 46 (by omega) (by omega) (by omega) (by omega)]; exact ha
            refine ev_aload_n dX6_book_57 rfl ?_
            refine ev_callV (c_X6_day (by rw [w47]; exact eqP_ok e Hk) (by omega)) okX6_day dX6_book_58 mlX6_163 rfl rfl ⟨by decide, by decide⟩ rfl (Nat.le_of_ble_eq_true rfl) (fun r58 τ58 h58 => ?_)
            obtain ⟨rfl, g1, g2⟩ := h58
            rw [w47, w46, prA_0] at g1
            refine ev_istore dX6_book_61 (by decide) rfl ?_
            refine ev_iinc dX6_book_63 rfl (by decide) rfl ?_
            refine ev_goto (tgt := 22) dX6_book_66 (by decide) ?_
            refine ih (k + 1) τ58 _ rfl rfl rfl (by omega) (eqP_trans g1 (eqP_dayP e Hk).1) (fun a x1 x2 x3 x4 => by rw [g2 a x1 x4, ← hω, mup_ne x3]; exact f a x1 x2 x3 x4) (fun i hi => by rw [g2 50 (by omega) (by omega), ← hω, mup_ne (by decide)]; exact f50 i hi) (fun x => ?_)
            rw [g2 58 (by omega) (by omega), ← hω]
            by_cases w : x = 40 * s + k
            · rw [w, mup_at]
              unfold bkR
              rw [if_pos (by omega), show (40 * s + (k : Int) - 40 * s).toNat = k by omega]
            · rw [mup_off w, f58]
              unfold bkR
              by_cases v : 40 * s ≤ x ∧ x < 40 * s + k
              · rw [if_pos v, if_pos (by omega)]
              · rw [if_neg v, if_neg (by omega)]
      refine ev_istore_n dX6_book_5 (by decide) rfl ?_
      refine ev_iload_n dX6_book_6 rfl ?_
      refine ev_if_eq (tgt := 16) dX6_book_7 (by decide) (by omega) (fun c7 => ?_) (fun c7 => ?_)
      · refine ev_aload_n dX6_book_16 rfl ?_
        refine ev_V0 c_X6_laysAside okX6_laysAside dX6_book_17 mlX6_184 rfl rfl ⟨by decide, by decide⟩ rfl (Nat.le_of_ble_eq_true rfl) ?_
        refine ev_iconst dX6_book_20 ?_
        refine ev_istore_n dX6_book_21 (by decide) rfl ?_
        refine loop n 0 _ _ rfl rfl rfl (by omega) ?_ (fun a x1 x2 x3 x4 => cpy_ne x2) (fun i hi => cpy_at i hi) (fun x => ?_)
        · rw [cpy_ne (by decide), hP]; exact eqP_rf
        · rw [cpy_ne (by decide)]
          unfold bkR
          rw [if_neg (by omega)]
      · exact absurd rfl c7
  · rw [if_pos hs, if_pos hs]
    refine ev_istore_n dX6_book_5 (by decide) rfl ?_
    refine ev_iload_n dX6_book_6 rfl ?_
    refine ev_if_eq (tgt := 16) dX6_book_7 (by decide) (by omega) (fun c7 => ?_) (fun c7 => ?_)
    · exact absurd c7 (by omega)
    · refine ev_aload_n dX6_book_10 rfl ?_
      refine ev_iload_n dX6_book_11 rfl ?_
      refine ev_V1 (c_X6_finds (by omega)) okX6_finds dX6_book_12 mlX6_101 rfl rfl ⟨by decide, by decide⟩ rfl (Nat.le_of_ble_eq_true rfl) ?_
      refine ev_iret dX6_book_15 rfl rfl ?_
      exact RP_fnd ha
theorem c_X6_isBook {b : ev_B} {σ : ev_M} {s : Int} (H : okP (wr (σ 47))) (HS : okSR σ) (ha : σ 46 6 = 0) (hs : 0 ≤ s ∧ s ≤ 3) : Cl b mX6_isBook [vR 46, vI s] σ (fun r τ => r = some (vI (if gsB (wr (σ 47)) (fun i => σ 58 (40 * s + i)) (σ 57 s).toNat = true then 1 else 0)) ∧ ∀ a : Nat, a ≠ 47 → a < 52 ∨ 54 < a → τ a = σ a) := by
  refine ev_enter okX6_isBook.1 (Nat.le_of_ble_eq_true rfl) ?_
  obtain ⟨q1, q2, q3⟩ := HS s hs
  obtain ⟨n, hn, hn2⟩ := nn_ex q2.1
  rw [hn2]
  generalize hP : wr (σ 47) = P at *
  generalize hF : (fun i => σ 58 (40 * s + i)) = F
  have hFv : ∀ i, σ 58 (40 * s + i) = F i := fun i => by rw [← hF]
  have loop : ∀ (m i : Nat) (τ : ev_M) (ls : List (Nat × ev_V)), ev_lk ls 0 = some (vR 46) → ev_lk ls 1 = some (vI s) → ev_lk ls 2 = some (vI i) → i + m = n → eqP (wr (τ 47)) (dayN P allp i) → (∀ a : Nat, a ≠ 47 → a < 52 ∨ 54 < a → τ a = σ a) → gsB P F i = true → Ev b mX6_isBook 2 ls [] τ (fun r τ => r = some (vI (if gsB P F n = true then 1 else 0)) ∧ ∀ a : Nat, a ≠ 47 → a < 52 ∨ 54 < a → τ a = σ a) := by
    intro m
    induction m with
    | zero =>
      intro i τ ls l0 l1 l2 h e f hg
      refine Ev.lsub (ls' := [(0, vR 46), (1, vI s), (2, vI i)]) (by simp [l0, l1, l2]) ?_
      have e57 : τ 57 s = σ 57 s := by rw [f 57 (by omega) (by omega)]
      refine ev_iload_n dX6_isBook_2 rfl ?_
      refine ev_aload_n dX6_isBook_3 rfl ?_
      refine ev_getr 17 dX6_isBook_4 rfl rfl flX6_40 iwX6 (by decide) rfl ?_
      refine ev_iload_n dX6_isBook_7 rfl ?_
      refine ev_iald dX6_isBook_8 rfl (by omega) ?_
      refine ev_icmp_ge (tgt := 45) dX6_isBook_9 (by decide) (by omega) (by omega) (fun c9 => ?_) (fun c9 => ?_)
      · refine ev_iconst dX6_isBook_45 ?_
        refine ev_iret dX6_isBook_46 rfl (by first | rfl | exact ev_nb) ?_
        have ei : i = n := by omega
        subst ei
        rw [if_pos hg]
        exact ⟨rfl, f⟩
      · exact absurd c9 (by omega)
    | succ m ih =>
      intro i τ ls l0 l1 l2 h e f hg
      refine Ev.lsub (ls' := [(0, vR 46), (1, vI s), (2, vI i)]) (by simp [l0, l1, l2]) ?_
      have e57 : τ 57 s = σ 57 s := by rw [f 57 (by omega) (by omega)]
      have e58 : τ 58 (40 * s + i) = F i := by rw [f 58 (by omega) (by omega)]; exact hFv i
      have nb := q3 i (by omega)
      rw [hFv] at nb
      have Hk := okP_dayN (pr := allp) H i
      have eW : WT (wr (τ 47)) = WT (dayN P allp i) := eqP_WT e
      have wb := WT_bd Hk
      have a0 : τ 46 6 = 0 := by rw [f 46 (by omega) (by omega)]; exact ha
      refine ev_iload_n dX6_isBook_2 rfl ?_
      refine ev_aload_n dX6_isBook_3 rfl ?_
      refine ev_getr 17 dX6_isBook_4 rfl rfl flX6_40 iwX6 (by decide) rfl ?_
      refine ev_iload_n dX6_isBook_7 rfl ?_
      refine ev_iald dX6_isBook_8 rfl (by omega) ?_
      refine ev_icmp_ge (tgt := 45) dX6_isBook_9 (by decide) (by omega) (by omega) (fun c9 => ?_) (fun c9 => ?_)
      · exact absurd c9 (by omega)
      · refine ev_aload_n dX6_isBook_12 rfl ?_
        refine ev_getr 18 dX6_isBook_13 rfl rfl flX6_43 iwX6 (by decide) rfl ?_
        refine ev_bipush dX6_isBook_16 (by decide) ?_
        refine ev_iload_n dX6_isBook_18 rfl ?_
        refine ev_imul dX6_isBook_19 ?_
        refine ev_iload_n dX6_isBook_20 rfl ?_
        refine ev_iadd dX6_isBook_21 ?_
        refine ev_lald dX6_isBook_22 rfl (by omega) ?_
        rw [e58]
        refine ev_aload_n dX6_isBook_23 rfl ?_
        refine ev_V1 c_X6_wheatAll okX6_wheatAll dX6_isBook_24 mlX6_172 rfl rfl ⟨by decide, by decide⟩ rfl (Nat.le_of_ble_eq_true rfl) ?_
        rw [eW]
        refine ev_i2l dX6_isBook_27 (by omega) ?_
        refine ev_lc_eq (tgt := 34) dX6_isBook_28 dX6_isBook_29 (by decide) (by omega) (by omega) (fun c28 => ?_) (fun c28 => ?_)
        · refine ev_aload_n dX6_isBook_34 rfl ?_
          refine ev_callV (c_X6_day (eqP_ok e Hk) (by omega)) okX6_day dX6_isBook_35 mlX6_163 rfl rfl ⟨by decide, by decide⟩ rfl (Nat.le_of_ble_eq_true rfl) (fun r35 τ35 h35 => ?_)
          obtain ⟨rfl, g1, g2⟩ := h35
          rw [a0, prA_0] at g1
          refine ev_istore_n dX6_isBook_38 (by decide) rfl ?_
          refine ev_iinc dX6_isBook_39 rfl (by decide) rfl ?_
          refine ev_goto (tgt := 2) dX6_isBook_42 (by decide) ?_
          refine ih (i + 1) τ35 _ rfl rfl rfl (by omega) (eqP_trans g1 (eqP_dayP e Hk).1) (fun a x1 x2 => by rw [g2 a x1 x2]; exact f a x1 x2) ?_
          unfold gsB
          rw [hg, decide_eq_true c28]
          rfl
        · refine ev_iconst dX6_isBook_32 ?_
          refine ev_iret dX6_isBook_33 rfl (by first | rfl | exact ev_nb) ?_
          rw [gsB_no c28 (n := n) (by omega)]
          exact ⟨rfl, f⟩
  refine ev_iconst dX6_isBook_0 ?_
  refine ev_istore_n dX6_isBook_1 (by decide) rfl ?_
  exact loop n 0 σ _ rfl rfl rfl (by omega) (by rw [hP]; exact eqP_rf) (fun _ _ _ => rfl) rfl
