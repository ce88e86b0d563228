/-! bits of small sets -/
def pw (l : Int) : Int := 2 ^ l.toNat
theorem pw_nat (n : Nat) : pw n = 2 ^ n := by unfold pw; simp
theorem pw_bd : ∀ n : Nat, n < 9 → 1 ≤ pw n ∧ pw n ≤ 256 := by decide +kernel
theorem bt_shl {l : Int} (h : 0 ≤ l ∧ l < 9) : Int32.ofInt 1 <<< (Int32.ofInt l &&& 31) = Int32.ofInt (pw l) := by
  have h1 : ∀ n : Nat, n < 9 → Int32.ofInt 1 <<< (Int32.ofInt n &&& 31) = Int32.ofInt (pw n) := by decide +kernel
  have h2 := h1 l.toNat (by omega)
  rw [show ((l.toNat : Nat) : Int) = l by omega] at h2
  exact h2
theorem bt_or {n : Nat} {s : Int} (hn : n < 9) (h : 0 ≤ s ∧ s < pw n) : Int32.ofInt s ||| Int32.ofInt (pw n) = Int32.ofInt (s + pw n) := by
  have h1 : ∀ n : Nat, n < 9 → ∀ s : Nat, s < 2 ^ n → Int32.ofInt s ||| Int32.ofInt (pw n) = Int32.ofInt (s + pw n) := by decide +kernel
  have h2 := h1 n hn s.toNat (by rw [pw_nat] at h; have h3 : ((2 ^ n : Nat) : Int) = (2 : Int) ^ n := by simp
                                 omega)
  rw [show ((s.toNat : Nat) : Int) = s by omega] at h2
  exact h2
theorem bt_shr {s l : Int} (hs : 0 ≤ s ∧ s < 256) (hl : 0 ≤ l ∧ l < 8) : Int32.ofInt s >>> (Int32.ofInt l &&& 31) = Int32.ofInt (s / pw l) := by
  have h1 : ∀ s : Nat, s < 256 → ∀ n : Nat, n < 8 → Int32.ofInt s >>> (Int32.ofInt n &&& 31) = Int32.ofInt (s / pw n) := by decide +kernel
  have h2 := h1 s.toNat (by omega) l.toNat (by omega)
  rw [show ((l.toNat : Nat) : Int) = l by omega, show ((s.toNat : Nat) : Int) = s by omega] at h2
  exact h2
theorem bt_and1 {s : Int} (hs : 0 ≤ s ∧ s < 256) : Int32.ofInt s &&& Int32.ofInt 1 = Int32.ofInt (s % 2) := by
  have h1 : ∀ s : Nat, s < 256 → Int32.ofInt s &&& Int32.ofInt 1 = Int32.ofInt (s % 2) := by decide +kernel
  have h2 := h1 s.toNat (by omega)
  rw [show ((s.toNat : Nat) : Int) = s by omega] at h2
  exact h2
theorem pw_div {s l : Int} (hs : 0 ≤ s ∧ s < 256) (hl : 0 ≤ l ∧ l < 8) : 0 ≤ s / pw l ∧ s / pw l < 256 := by
  have h1 : ∀ s : Nat, s < 256 → ∀ n : Nat, n < 8 → 0 ≤ (s : Int) / pw n ∧ (s : Int) / pw n < 256 := by decide +kernel
  have h2 := h1 s.toNat (by omega) l.toNat (by omega)
  rw [show ((l.toNat : Nat) : Int) = l by omega, show ((s.toNat : Nat) : Int) = s by omega] at h2
  exact h2
/-- a set of numbers below n -/
def stf (f : Int → Bool) (n : Nat) : Int := sm (fun l => if f l = true then pw l else 0) n
theorem stf_bd (f : Int → Bool) : ∀ n : Nat, 0 ≤ stf f n ∧ stf f n < pw n
  | 0 => by simp [stf, sm, pw]
  | n + 1 => by
    have h := stf_bd f n
    have e : pw ((n + 1 : Nat) : Int) = 2 * pw n := by rw [pw_nat, pw_nat, Int.pow_succ]; omega
    unfold stf at h ⊢
    rw [e]
    unfold sm
    split <;> omega
/-! what holds of a plain, in the cells' words -/
theorem ok0 {σ : ev_M} {p : Nat} (H : okP (wn σ p)) : (0 ≤ σ p 1 ∧ σ p 1 ≤ 20) ∧ 0 ≤ σ p 2 ∧ (0 ≤ σ p 3 ∧ σ p 3 ≤ 6) ∧ (0 ≤ σ p 8 ∧ σ p 8 ≤ 8) := ⟨H.1, H.2.1, H.2.2.1, H.2.2.2.1⟩
theorem okw {σ : ev_M} {p : Nat} (H : okP (wn σ p)) {c : Int} (h : 0 ≤ c ∧ c < 48) : 0 ≤ σ (p + 1) c ∧ σ (p + 1) c ≤ 99 := H.2.2.2.2.1 c h
theorem oks {σ : ev_M} {p : Nat} (H : okP (wn σ p)) {k : Int} (h : 0 ≤ k ∧ k < σ p 3) : (0 ≤ σ (p + 2) k ∧ σ (p + 2) k ≤ 5) ∧ (0 ≤ σ (p + 3) k ∧ σ (p + 3) k ≤ 30) ∧ (0 ≤ σ (p + 4) k ∧ σ (p + 4) k ≤ 99) ∧ 0 ≤ σ (p + 5) k := H.2.2.2.2.2.1 k h
theorem okl {σ : ev_M} {p : Nat} (H : okP (wn σ p)) {l : Int} (h : 0 ≤ l ∧ l < σ p 8) : (0 ≤ σ (p + 6) l ∧ σ (p + 6) l < 48) ∧ (0 ≤ σ (p + 7) l ∧ σ (p + 7) l < σ p 3) ∧ (0 ≤ σ (p + 8) l ∧ σ (p + 8) l ≤ 9999) := H.2.2.2.2.2.2 l h
/-! the kinds -/
theorem c_X1_fade {b : ev_B} {σ : ev_M} {kind temper age : Int} (hk : 0 ≤ kind ∧ kind ≤ 5) (ht : 0 ≤ temper ∧ temper ≤ 30) (ha : 0 ≤ age ∧ age ≤ 9999) : CF b mX1_fade [vI kind, vI temper, vI age] σ (some (vI (sp_fade kind temper age))) σ := by
  refine ev_enter okX1_fade.1 (Nat.le_of_ble_eq_true rfl) ?_
  have J : ∀ d : Int, d = (if age < 365 then temper else 0) → Ev b mX1_fade 22 [(0, vI kind), (1, vI temper), (2, vI age), (3, vI (max 0 (temper - age / 4)))] [vI d] σ (fun r' τ' => r' = some (vI (sp_fade kind temper age)) ∧ τ' = σ) := by
    intro d hd
    refine ev_istore dX1_fade_22 (by decide) rfl ?_
    refine ev_iload_n dX1_fade_24 rfl ?_
    -- switch 25
    rcases (show kind = 0 ∨ kind = 1 ∨ kind = 2 ∨ kind = 3 ∨ kind = 4 ∨ kind = 5 by omega) with rfl | rfl | rfl | rfl | rfl | rfl
    · refine ev_tableOut (tgt := 89) dX1_fade_25 (by omega) (by omega) (by decide) ?_
      refine ev_iload_n dX1_fade_89 rfl ?_
      refine ev_iret dX1_fade_90 rfl rfl ?_
      exact ⟨rfl, rfl⟩
    · refine ev_tableIn (off := 35) (tgt := 60) dX1_fade_25 (by omega) (by omega) (by omega) (by decide) (by decide) ?_
      refine ev_iload_n dX1_fade_60 rfl ?_
      refine ev_iconst dX1_fade_61 ?_
      refine ev_iadd dX1_fade_62 ?_
      refine ev_iret dX1_fade_63 rfl rfl ?_
      exact ⟨rfl, rfl⟩
    · refine ev_tableIn (off := 39) (tgt := 64) dX1_fade_25 (by omega) (by omega) (by omega) (by decide) (by decide) ?_
      refine ev_iload_n dX1_fade_64 rfl ?_
      refine ev_iconst dX1_fade_65 ?_
      refine ev_idiv dX1_fade_66 (by omega) (by omega) ?_
      refine ev_iret dX1_fade_67 rfl rfl ?_
      exact ⟨rfl, rfl⟩
    · refine ev_tableIn (off := 43) (tgt := 68) dX1_fade_25 (by omega) (by omega) (by omega) (by decide) (by decide) ?_
      refine ev_iload dX1_fade_68 rfl ?_
      refine ev_iret dX1_fade_70 rfl rfl ?_
      exact ⟨by rw [hd]; rfl, rfl⟩
    · refine ev_tableIn (off := 46) (tgt := 71) dX1_fade_25 (by omega) (by omega) (by omega) (by decide) (by decide) ?_
      refine ev_iload_n dX1_fade_71 rfl ?_
      refine ev_iconst dX1_fade_72 ?_
      refine ev_idiv dX1_fade_73 (by omega) (by omega) ?_
      refine ev_ineg dX1_fade_74 ?_
      refine ev_iret dX1_fade_75 rfl rfl ?_
      exact ⟨rfl, rfl⟩
    · refine ev_tableIn (off := 51) (tgt := 76) dX1_fade_25 (by omega) (by omega) (by omega) (by decide) (by decide) ?_
      refine ev_iload_n dX1_fade_76 rfl ?_
      refine ev_bipush dX1_fade_77 (by decide) ?_
      refine ev_icmp_ge (tgt := 87) dX1_fade_79 (by decide) (by omega) (by omega) (fun c79 => ?_) (fun c79 => ?_)
      · refine ev_iconst dX1_fade_87 ?_
        refine ev_iret dX1_fade_88 rfl rfl ?_
        refine ⟨?_, rfl⟩
        show some (vI 0) = some (vI (if age < 7 then temper else 0))
        rw [if_neg (by omega)]
      · refine ev_iload dX1_fade_82 rfl ?_
        refine ev_goto (tgt := 88) dX1_fade_84 (by decide) ?_
        refine ev_iret dX1_fade_88 rfl rfl ?_
        refine ⟨?_, rfl⟩
        show some (vI d) = some (vI (if age < 7 then temper else 0))
        rw [if_pos (by omega), hd, if_pos (by omega)]
  refine ev_iconst dX1_fade_0 ?_
  refine ev_iload_n dX1_fade_1 rfl ?_
  refine ev_iload_n dX1_fade_2 rfl ?_
  refine ev_iconst dX1_fade_3 ?_
  refine ev_idiv dX1_fade_4 (by omega) (by omega) ?_
  refine ev_isub dX1_fade_5 ?_
  refine ev_mmax dX1_fade_6 mlX1_13 ma_max (by omega) (by omega) ⟨by decide, Nat.le_of_ble_eq_true rfl⟩ ?_
  refine ev_istore_n dX1_fade_9 (by decide) rfl ?_
  refine ev_iload_n dX1_fade_10 rfl ?_
  refine ev_sipush dX1_fade_11 (by decide) ?_
  refine ev_icmp_ge (tgt := 21) dX1_fade_14 (by decide) (by omega) (by omega) (fun c14 => ?_) (fun c14 => ?_)
  · refine ev_iconst dX1_fade_21 ?_
    exact J 0 (by rw [if_neg (by omega)])
  · refine ev_iload_n dX1_fade_17 rfl ?_
    refine ev_goto (tgt := 22) dX1_fade_18 (by decide) ?_
    exact J temper (by rw [if_pos (by omega)])
theorem c_X1_scare {b : ev_B} {σ : ev_M} {kind f d : Int} (hk : 0 ≤ kind ∧ kind ≤ 5) (hf : -15 ≤ f ∧ f ≤ 35) (hd : 0 ≤ d ∧ d ≤ 12) : CF b mX1_scare [vI kind, vI f, vI d] σ (some (vI (sp_scare kind f d))) σ := by
  refine ev_enter okX1_scare.1 (Nat.le_of_ble_eq_true rfl) ?_
  refine ev_iconst dX1_scare_0 ?_
  refine ev_iload_n dX1_scare_1 rfl ?_
  refine ev_iconst dX1_scare_2 ?_
  refine ev_iload_n dX1_scare_3 rfl ?_
  refine ev_imul dX1_scare_4 ?_
  refine ev_isub dX1_scare_5 ?_
  refine ev_mmax dX1_scare_6 mlX1_13 ma_max (by omega) (by omega) ⟨by decide, Nat.le_of_ble_eq_true rfl⟩ ?_
  refine ev_istore_n dX1_scare_9 (by decide) rfl ?_
  refine ev_iload_n dX1_scare_10 rfl ?_
  -- switch 11
  rcases (show kind = 0 ∨ kind = 1 ∨ kind = 2 ∨ kind = 3 ∨ kind = 4 ∨ kind = 5 by omega) with rfl | rfl | rfl | rfl | rfl | rfl
  · refine ev_tableOut (tgt := 83) dX1_scare_11 (by omega) (by omega) (by decide) ?_
    refine ev_iload_n dX1_scare_83 rfl ?_
    refine ev_iret dX1_scare_84 rfl rfl ?_
    exact ⟨rfl, rfl⟩
  · refine ev_tableIn (off := 33) (tgt := 44) dX1_scare_11 (by omega) (by omega) (by omega) (by decide) (by decide) ?_
    refine ev_iconst dX1_scare_44 ?_
    refine ev_iload_n dX1_scare_45 rfl ?_
    refine ev_iload_n dX1_scare_46 rfl ?_
    refine ev_isub dX1_scare_47 ?_
    refine ev_mmax dX1_scare_48 mlX1_13 ma_max (by omega) (by omega) ⟨by decide, Nat.le_of_ble_eq_true rfl⟩ ?_
    refine ev_iret dX1_scare_51 rfl rfl ?_
    exact ⟨rfl, rfl⟩
  · refine ev_tableIn (off := 41) (tgt := 52) dX1_scare_11 (by omega) (by omega) (by omega) (by decide) (by decide) ?_
    refine ev_iconst dX1_scare_52 ?_
    refine ev_iload_n dX1_scare_53 rfl ?_
    refine ev_iconst dX1_scare_54 ?_
    refine ev_isub dX1_scare_55 ?_
    refine ev_mmax dX1_scare_56 mlX1_13 ma_max (by omega) (by omega) ⟨by decide, Nat.le_of_ble_eq_true rfl⟩ ?_
    refine ev_iret dX1_scare_59 rfl rfl ?_
    exact ⟨rfl, rfl⟩
  · refine ev_tableIn (off := 72) (tgt := 83) dX1_scare_11 (by omega) (by omega) (by omega) (by decide) (by decide) ?_
    refine ev_iload_n dX1_scare_83 rfl ?_
    refine ev_iret dX1_scare_84 rfl rfl ?_
    exact ⟨rfl, rfl⟩
  · refine ev_tableIn (off := 49) (tgt := 60) dX1_scare_11 (by omega) (by omega) (by omega) (by decide) (by decide) ?_
    refine ev_iconst dX1_scare_60 ?_
    refine ev_iload_n dX1_scare_61 rfl ?_
    refine ev_iconst dX1_scare_62 ?_
    refine ev_iload_n dX1_scare_63 rfl ?_
    refine ev_imul dX1_scare_64 ?_
    refine ev_iadd dX1_scare_65 ?_
    refine ev_mmin dX1_scare_66 mlX1_21 ma_min (by omega) (by omega) ⟨by decide, Nat.le_of_ble_eq_true rfl⟩ ?_
    refine ev_iret dX1_scare_69 rfl rfl ?_
    exact ⟨rfl, rfl⟩
  · refine ev_tableIn (off := 59) (tgt := 70) dX1_scare_11 (by omega) (by omega) (by omega) (by decide) (by decide) ?_
    refine ev_iload_n dX1_scare_70 rfl ?_
    refine ev_iconst dX1_scare_71 ?_
    refine ev_icmp_gt (tgt := 81) dX1_scare_72 (by decide) (by omega) (by omega) (fun c72 => ?_) (fun c72 => ?_)
    · refine ev_iload_n dX1_scare_81 rfl ?_
      refine ev_iret dX1_scare_82 rfl rfl ?_
      refine ⟨?_, rfl⟩
      show _ = some (vI (if d ≤ 1 then 2 * max 0 (f - 3 * d) else max 0 (f - 3 * d)))
      rw [if_neg (by omega)]
    · refine ev_iconst dX1_scare_75 ?_
      refine ev_iload_n dX1_scare_76 rfl ?_
      refine ev_imul dX1_scare_77 ?_
      refine ev_goto (tgt := 82) dX1_scare_78 (by decide) ?_
      refine ev_iret dX1_scare_82 rfl rfl ?_
      refine ⟨?_, rfl⟩
      show _ = some (vI (if d ≤ 1 then 2 * max 0 (f - 3 * d) else max 0 (f - 3 * d)))
      rw [if_pos (by omega)]
theorem c_X1_isUnder {b : ev_B} {σ : ev_M} {kind abv : Int} (hk : 0 ≤ kind ∧ kind ≤ 5) (ha : 0 ≤ abv ∧ abv ≤ 5) : CF b mX1_isUnder [vI kind, vI abv] σ (some (vI (if abv = 0 ∨ kind = abv ∨ (3 < kind ∧ kind - 2 = abv) then 1 else 0))) σ := by
  refine ev_enter okX1_isUnder.1 (Nat.le_of_ble_eq_true rfl) ?_
  have hm : ∀ (Q : Option ev_V → ev_M → Prop) (s : Int), 0 ≤ s ∧ s < 6 → Q (some (vI 0)) σ → Ev b mX1_isUnder 4 [(0, vI kind), (1, vI abv), (2, vI (-1)), (3, vI s)] [] σ Q := by
    intro Q s hs hq
    refine ev_iload_n dX1_isUnder_4 rfl ?_
    refine ev_bipush dX1_isUnder_5 (by decide) ?_
    refine ev_icmp_ge (tgt := 33) dX1_isUnder_7 (by decide) (by omega) (by omega) (fun c7 => ?_) (fun c7 => ?_)
    · exact absurd c7 (by omega)
    · refine ev_iload_n dX1_isUnder_10 rfl ?_
      refine ev_if_lt (tgt := 33) dX1_isUnder_11 (by decide) (by omega) (fun c11 => ?_) (fun c11 => ?_)
      · refine ev_iconst dX1_isUnder_33 ?_
        refine ev_iret dX1_isUnder_34 rfl (by first | rfl | exact ev_nb) ?_
        exact hq
      · exact absurd c11 (by omega)
  have h0 : ∀ (Q : Option ev_V → ev_M → Prop) (s : Int), 0 ≤ s ∧ s < 5 → Q (some (vI (if abv = 0 then 1 else 0))) σ → Ev b mX1_isUnder 4 [(0, vI kind), (1, vI abv), (2, vI 0), (3, vI s)] [] σ Q := by
    intro Q s hs hq
    refine ev_iload_n dX1_isUnder_4 rfl ?_
    refine ev_bipush dX1_isUnder_5 (by decide) ?_
    refine ev_icmp_ge (tgt := 33) dX1_isUnder_7 (by decide) (by omega) (by omega) (fun c7 => ?_) (fun c7 => ?_)
    · exact absurd c7 (by omega)
    · refine ev_iload_n dX1_isUnder_10 rfl ?_
      refine ev_if_lt (tgt := 33) dX1_isUnder_11 (by decide) (by omega) (fun c11 => ?_) (fun c11 => ?_)
      · exact absurd c11 (by omega)
      · refine ev_iload_n dX1_isUnder_14 rfl ?_
        refine ev_iload_n dX1_isUnder_15 rfl ?_
        refine ev_icmp_ne (tgt := 21) dX1_isUnder_16 (by decide) (by omega) (by omega) (fun c16 => ?_) (fun c16 => ?_)
        · refine ev_getKA dX1_isUnder_21 rfl ?_
          refine ev_iload_n dX1_isUnder_24 rfl ?_
          refine ev_kald (v := -1) dX1_isUnder_25 (by omega) rfl ?_
          refine ev_istore_n dX1_isUnder_26 (by decide) rfl ?_
          refine ev_iinc dX1_isUnder_27 rfl (by decide) rfl ?_
          refine ev_goto (tgt := 4) dX1_isUnder_30 (by decide) ?_
          exact hm Q (s + 1) (by omega) (by rw [if_neg (by omega)] at hq; exact hq)
        · refine ev_iconst dX1_isUnder_19 ?_
          refine ev_iret dX1_isUnder_20 rfl (by first | rfl | exact ev_nb) ?_
          rw [if_pos (by omega)] at hq; exact hq
  have h1 : ∀ (k : Int) (Q : Option ev_V → ev_M → Prop) (s : Int), 1 ≤ k ∧ k ≤ 3 → 0 ≤ s ∧ s < 4 → Q (some (vI (if abv = 0 ∨ k = abv then 1 else 0))) σ → Ev b mX1_isUnder 4 [(0, vI kind), (1, vI abv), (2, vI k), (3, vI s)] [] σ Q := by
    intro k Q s hk2 hs hq
    refine ev_iload_n dX1_isUnder_4 rfl ?_
    refine ev_bipush dX1_isUnder_5 (by decide) ?_
    refine ev_icmp_ge (tgt := 33) dX1_isUnder_7 (by decide) (by omega) (by omega) (fun c7 => ?_) (fun c7 => ?_)
    · exact absurd c7 (by omega)
    · refine ev_iload_n dX1_isUnder_10 rfl ?_
      refine ev_if_lt (tgt := 33) dX1_isUnder_11 (by decide) (by omega) (fun c11 => ?_) (fun c11 => ?_)
      · exact absurd c11 (by omega)
      · refine ev_iload_n dX1_isUnder_14 rfl ?_
        refine ev_iload_n dX1_isUnder_15 rfl ?_
        refine ev_icmp_ne (tgt := 21) dX1_isUnder_16 (by decide) (by omega) (by omega) (fun c16 => ?_) (fun c16 => ?_)
        · refine ev_getKA dX1_isUnder_21 rfl ?_
          refine ev_iload_n dX1_isUnder_24 rfl ?_
          refine ev_kald (v := 0) dX1_isUnder_25 (by omega) (by rcases (show k = 1 ∨ k = 2 ∨ k = 3 by omega) with rfl | rfl | rfl <;> rfl) ?_
          refine ev_istore_n dX1_isUnder_26 (by decide) rfl ?_
          refine ev_iinc dX1_isUnder_27 rfl (by decide) rfl ?_
          refine ev_goto (tgt := 4) dX1_isUnder_30 (by decide) ?_
          refine h0 Q (s + 1) (by omega) ?_
          by_cases h : abv = 0
          · rw [if_pos h]; rw [if_pos (Or.inl h)] at hq; exact hq
          · rw [if_neg h]; rw [if_neg (by omega)] at hq; exact hq
        · refine ev_iconst dX1_isUnder_19 ?_
          refine ev_iret dX1_isUnder_20 rfl (by first | rfl | exact ev_nb) ?_
          rw [if_pos (by omega)] at hq; exact hq
  refine ev_iload_n dX1_isUnder_0 rfl ?_
  refine ev_istore_n dX1_isUnder_1 (by decide) rfl ?_
  refine ev_iconst dX1_isUnder_2 ?_
  refine ev_istore_n dX1_isUnder_3 (by decide) rfl ?_
  rcases (show kind = 0 ∨ (1 ≤ kind ∧ kind ≤ 3) ∨ (4 ≤ kind) by omega) with h | h | h
  · subst h
    refine h0 _ 0 (by omega) ⟨?_, rfl⟩
    by_cases h : abv = 0
    · rw [if_pos h, if_pos (Or.inl h)]
    · rw [if_neg h, if_neg (by omega)]
  · refine h1 kind _ 0 h (by omega) ⟨?_, rfl⟩
    by_cases h2 : abv = 0 ∨ kind = abv
    · rw [if_pos h2, if_pos (by omega)]
    · rw [if_neg h2, if_neg (by omega)]
  · refine ev_iload_n dX1_isUnder_4 rfl ?_
    refine ev_bipush dX1_isUnder_5 (by decide) ?_
    refine ev_icmp_ge (tgt := 33) dX1_isUnder_7 (by decide) (by omega) (by omega) (fun c7 => ?_) (fun c7 => ?_)
    · exact absurd c7 (by omega)
    · refine ev_iload_n dX1_isUnder_10 rfl ?_
      refine ev_if_lt (tgt := 33) dX1_isUnder_11 (by decide) (by omega) (fun c11 => ?_) (fun c11 => ?_)
      · exact absurd c11 (by omega)
      · refine ev_iload_n dX1_isUnder_14 rfl ?_
        refine ev_iload_n dX1_isUnder_15 rfl ?_
        refine ev_icmp_ne (tgt := 21) dX1_isUnder_16 (by decide) (by omega) (by omega) (fun c16 => ?_) (fun c16 => ?_)
        · refine ev_getKA dX1_isUnder_21 rfl ?_
          refine ev_iload_n dX1_isUnder_24 rfl ?_
          refine ev_kald (v := kind - 2) dX1_isUnder_25 (by omega) (by rcases (show kind = 4 ∨ kind = 5 by omega) with rfl | rfl <;> rfl) ?_
          refine ev_istore_n dX1_isUnder_26 (by decide) rfl ?_
          refine ev_iinc dX1_isUnder_27 rfl (by decide) rfl ?_
          refine ev_goto (tgt := 4) dX1_isUnder_30 (by decide) ?_
          refine h1 (kind - 2) _ 1 (by omega) (by omega) ⟨?_, rfl⟩
          by_cases h2 : abv = 0 ∨ kind - 2 = abv
          · rw [if_pos h2, if_pos (by omega)]
          · rw [if_neg h2, if_neg (by omega)]
        · refine ev_iconst dX1_isUnder_19 ?_
          refine ev_iret dX1_isUnder_20 rfl (by first | rfl | exact ev_nb) ?_
          refine ⟨?_, rfl⟩
          rw [if_pos (by omega)]
