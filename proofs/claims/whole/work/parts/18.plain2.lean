/-! memory, read -/
theorem mr1 {σ : ev_M} {k a : Nat} {i z j : Int} (h : a ≠ k) : mup σ k i z a j = σ a j := by simp [mup, h]
theorem mr2 {σ : ev_M} {k a : Nat} {i z j : Int} (h : j ≠ i) : mup σ k i z a j = σ a j := by simp [mup, h]
theorem mr3 {σ : ev_M} {k : Nat} {i z : Int} : mup σ k i z k i = z := by simp [mup]
theorem cr1 {σ : ev_M} {k0 k a : Nat} {sp dp n j : Int} (h : a ≠ k) : mcp σ k0 sp k dp n a j = σ a j := by simp [mcp, h]
theorem cr2 {σ : ev_M} {k0 k a : Nat} {sp dp n j : Int} (h : j < dp ∨ dp + n ≤ j) : mcp σ k0 sp k dp n a j = σ a j := by
  simp only [mcp]; rw [if_neg (by omega)]
theorem cr3 {σ : ev_M} {k0 k : Nat} {sp dp n j : Int} (h : dp ≤ j ∧ j < dp + n) : mcp σ k0 sp k dp n k j = σ k0 (sp + (j - dp)) := by
  simp only [mcp]; rw [if_pos ⟨trivial, h⟩]
theorem fr1 {σ : ev_M} {k a : Nat} {i z : Int} (h : a ≠ k) : mup σ k i z a = σ a := mup_ne h
theorem fr2 {σ : ev_M} {k0 k a : Nat} {sp dp n : Int} (h : a ≠ k) : mcp σ k0 sp k dp n a = σ a := mcp_ne h
/-! how many pairs meet: small -/
theorem mpr_bd (P : ev_M) (pr : Int → Bool) (k a o : Int) : 0 ≤ mpr P pr k a o ∧ mpr P pr k a o ≤ 1 := by
  unfold mpr; split <;> decide
theorem mts_bd (P : ev_M) (pr : Int → Bool) (k : Int) {n : Nat} (hn : n ≤ 8) : 0 ≤ mts P pr k n ∧ mts P pr k n ≤ 64 := by
  have h1 : ∀ i : Nat, i < n → 0 ≤ sm (fun o => mpr P pr k i o) ((i : Int)).toNat ∧ sm (fun o => mpr P pr k i o) ((i : Int)).toNat ≤ 8 := by
    intro i hi
    have h := sm_bd (f := fun o => mpr P pr k i o) (lo := 0) (hi := 1) (n := ((i : Int)).toNat) (fun j _ => mpr_bd P pr k i j)
    omega
  have h := sm_bd (f := fun l => sm (fun o => mpr P pr k l o) l.toNat) (lo := 0) (hi := 8) (n := n) h1
  unfold mts
  omega
theorem c_X2_sittersWhoMeet {b : ev_B} {σ : ev_M} {p : Nat} (hp : isP p) (H : okP (wn σ p)) : CF b mX2_sittersWhoMeet [vR p] σ (some (vI (stf (fun k => decide (0 < mts (wn σ p) allp k (σ p 8).toNat)) (σ p 3).toNat))) σ := by
  refine ev_enter okX2_sittersWhoMeet.1 (Nat.le_of_ble_eq_true rfl) ?_
  have h0 := ok0 H
  obtain ⟨n, hn, hn2⟩ := nn_ex h0.2.2.1.1
  rw [hn2]
  have loop : ∀ (m i : Nat), i + m = n → Ev b mX2_sittersWhoMeet 4 [(0, vR p), (1, vI (stf (fun k => decide (0 < mts (wn σ p) allp k (σ p 8).toNat)) i)), (2, vI i)] [] σ (fun r' τ' => r' = some (vI (stf (fun k => decide (0 < mts (wn σ p) allp k (σ p 8).toNat)) n)) ∧ τ' = σ) := by
    intro m
    induction m with
    | zero =>
      intro i h
      refine ev_iload_n dX2_sittersWhoMeet_4 rfl ?_
      refine ev_aload_n dX2_sittersWhoMeet_5 rfl ?_
      refine ev_geti 3 3 dX2_sittersWhoMeet_6 (pk0 hp) rfl flX2_55 iwX2 (by decide) rfl rfl ?_
      refine ev_icmp_ge (tgt := 32) dX2_sittersWhoMeet_9 (by decide) (by omega) (by omega) (fun c9 => ?_) (fun c9 => ?_)
      · refine ev_iload_n dX2_sittersWhoMeet_32 rfl ?_
        refine ev_iret dX2_sittersWhoMeet_33 rfl rfl ?_
        have e : i = n := by omega
        subst e
        exact ⟨rfl, rfl⟩
      · exact absurd c9 (by omega)
    | succ m ih =>
      intro i h
      have hb := stf_bd (fun k => decide (0 < mts (wn σ p) allp k (σ p 8).toNat)) i
      have hb2 := pw_bd i (by omega)
      have hm := mts_bd (wn σ p) allp i (n := (σ p 8).toNat) (by omega)
      refine ev_iload_n dX2_sittersWhoMeet_4 rfl ?_
      refine ev_aload_n dX2_sittersWhoMeet_5 rfl ?_
      refine ev_geti 3 3 dX2_sittersWhoMeet_6 (pk0 hp) rfl flX2_55 iwX2 (by decide) rfl rfl ?_
      refine ev_icmp_ge (tgt := 32) dX2_sittersWhoMeet_9 (by decide) (by omega) (by omega) (fun c9 => ?_) (fun c9 => ?_)
      · exact absurd c9 (by omega)
      · refine ev_aload_n dX2_sittersWhoMeet_12 rfl ?_
        refine ev_iload_n dX2_sittersWhoMeet_13 rfl ?_
        refine ev_V1 (c_X2_meetings hp H (by omega)) okX2_meetings dX2_sittersWhoMeet_14 mlX2_69 (pk0 hp) rfl ⟨by decide, by decide⟩ rfl (Nat.le_of_ble_eq_true rfl) ?_
        refine ev_if_le (tgt := 26) dX2_sittersWhoMeet_17 (by decide) (by omega) (fun c17 => ?_) (fun c17 => ?_)
        · refine ev_iinc dX2_sittersWhoMeet_26 rfl (by decide) rfl ?_
          refine ev_goto (tgt := 4) dX2_sittersWhoMeet_29 (by decide) ?_
          have e : stf (fun k => decide (0 < mts (wn σ p) allp k (σ p 8).toNat)) i = stf (fun k => decide (0 < mts (wn σ p) allp k (σ p 8).toNat)) (i + 1) := by
            show _ = sm _ i + _
            simp only [decide_eq_true_eq]
            rw [if_neg (by omega)]
            simp [stf]
          rw [e]
          exact ih (i + 1) (by omega)
        · refine ev_iload_n dX2_sittersWhoMeet_20 rfl ?_
          refine ev_iconst dX2_sittersWhoMeet_21 ?_
          refine ev_iload_n dX2_sittersWhoMeet_22 rfl ?_
          refine ev_ishl dX2_sittersWhoMeet_23 (bt_shl (by omega)) ?_
          refine ev_ior dX2_sittersWhoMeet_24 (bt_or (by omega) (by omega)) ?_
          refine ev_istore_n dX2_sittersWhoMeet_25 (by decide) rfl ?_
          refine ev_iinc dX2_sittersWhoMeet_26 rfl (by decide) rfl ?_
          refine ev_goto (tgt := 4) dX2_sittersWhoMeet_29 (by decide) ?_
          have e : stf (fun k => decide (0 < mts (wn σ p) allp k (σ p 8).toNat)) i + pw i = stf (fun k => decide (0 < mts (wn σ p) allp k (σ p 8).toNat)) (i + 1) := by
            show _ = sm _ i + _
            simp only [decide_eq_true_eq]
            rw [if_pos (by omega)]
            simp [stf]
          rw [e]
          exact ih (i + 1) (by omega)
  refine ev_iconst dX2_sittersWhoMeet_0 ?_
  refine ev_istore_n dX2_sittersWhoMeet_1 (by decide) rfl ?_
  refine ev_iconst dX2_sittersWhoMeet_2 ?_
  refine ev_istore_n dX2_sittersWhoMeet_3 (by decide) rfl ?_
  exact loop n 0 (by omega)
theorem c_X2_feesDue {b : ev_B} {σ : ev_M} {p : Nat} (hp : isP p) (H : okP (wn σ p)) : CF b mX2_feesDue [vR p] σ (some (vI (sm (fun k => if stf (fun l => decide (σ (p + 7) l = k)) (σ p 8).toNat = 0 then 0 else σ (p + 4) k) (σ p 3).toNat))) σ := by
  refine ev_enter okX2_feesDue.1 (Nat.le_of_ble_eq_true rfl) ?_
  have h0 := ok0 H
  obtain ⟨n, hn, hn2⟩ := nn_ex h0.2.2.1.1
  rw [hn2]
  generalize hF : (fun k : Int => if stf (fun l => decide (σ (p + 7) l = k)) (σ p 8).toNat = 0 then 0 else σ (p + 4) k) = F
  have loop : ∀ (m i : Nat), i + m = n → Ev b mX2_feesDue 4 [(0, vR p), (1, vI (sm F i)), (2, vI i)] [] σ (fun r' τ' => r' = some (vI (sm F n)) ∧ τ' = σ) := by
    intro m
    induction m with
    | zero =>
      intro i h
      refine ev_iload_n dX2_feesDue_4 rfl ?_
      refine ev_aload_n dX2_feesDue_5 rfl ?_
      refine ev_geti 3 3 dX2_feesDue_6 (pk0 hp) rfl flX2_55 iwX2 (by decide) rfl rfl ?_
      refine ev_icmp_ge (tgt := 35) dX2_feesDue_9 (by decide) (by omega) (by omega) (fun c9 => ?_) (fun c9 => ?_)
      · refine ev_iload_n dX2_feesDue_35 rfl ?_
        refine ev_iret dX2_feesDue_36 rfl rfl ?_
        have e : i = n := by omega
        subst e
        exact ⟨rfl, rfl⟩
      · exact absurd c9 (by omega)
    | succ m ih =>
      intro i h
      have hb := stf_bd (fun l => decide (σ (p + 7) l = i)) (σ p 8).toNat
      have hb2 := pw_bd (σ p 8).toNat (by omega)
      refine ev_iload_n dX2_feesDue_4 rfl ?_
      refine ev_aload_n dX2_feesDue_5 rfl ?_
      refine ev_geti 3 3 dX2_feesDue_6 (pk0 hp) rfl flX2_55 iwX2 (by decide) rfl rfl ?_
      refine ev_icmp_ge (tgt := 35) dX2_feesDue_9 (by decide) (by omega) (by omega) (fun c9 => ?_) (fun c9 => ?_)
      · exact absurd c9 (by omega)
      · refine ev_aload_n dX2_feesDue_12 rfl ?_
        refine ev_iload_n dX2_feesDue_13 rfl ?_
        refine ev_V1 (c_X2_likenessesOf hp H (by omega)) okX2_likenessesOf dX2_feesDue_14 mlX2_73 (pk0 hp) rfl ⟨by decide, by decide⟩ rfl (Nat.le_of_ble_eq_true rfl) ?_
        refine ev_if_eq (tgt := 29) dX2_feesDue_17 (by decide) (by omega) (fun c17 => ?_) (fun c17 => ?_)
        · refine ev_iinc dX2_feesDue_29 rfl (by decide) rfl ?_
          refine ev_goto (tgt := 4) dX2_feesDue_32 (by decide) ?_
          have e : sm F i = sm F (i + 1) := by
            show _ = sm F i + F i
            rw [← hF]
            simp only []
            rw [if_pos c17, Int.add_zero]
          rw [e]
          exact ih (i + 1) (by omega)
        · refine ev_iload_n dX2_feesDue_20 rfl ?_
          refine ev_aload_n dX2_feesDue_21 rfl ?_
          refine ev_getr 6 dX2_feesDue_22 (pk0 hp) rfl flX2_25 iwX2 (by decide) rfl ?_
          refine ev_iload_n dX2_feesDue_25 rfl ?_
          refine ev_iald dX2_feesDue_26 (pk4 hp) (by omega) ?_
          refine ev_iadd dX2_feesDue_27 ?_
          refine ev_istore_n dX2_feesDue_28 (by decide) rfl ?_
          refine ev_iinc dX2_feesDue_29 rfl (by decide) rfl ?_
          refine ev_goto (tgt := 4) dX2_feesDue_32 (by decide) ?_
          have e : sm F i + σ (p + 4) i = sm F (i + 1) := by
            show _ = sm F i + F i
            rw [← hF]
            simp only []
            rw [if_neg c17]
          rw [e]
          exact ih (i + 1) (by omega)
  refine ev_iconst dX2_feesDue_0 ?_
  refine ev_istore_n dX2_feesDue_1 (by decide) rfl ?_
  refine ev_iconst dX2_feesDue_2 ?_
  refine ev_istore_n dX2_feesDue_3 (by decide) rfl ?_
  exact loop n 0 (by omega)
theorem c_X2_addSitter {b : ev_B} {σ : ev_M} {p : Nat} {k : Int} (hp : isP p) (h1 : 0 ≤ σ p 3 ∧ σ p 3 < 6) : CF b mX2_addSitter [vR p, vI k] σ (some (vI (σ p 3))) (mup (mup (mup (mup (mup σ (p + 2) (σ p 3) k) (p + 3) (σ p 3) 10) (p + 4) (σ p 3) 5) (p + 5) (σ p 3) (σ p 2)) p 3 (σ p 3 + 1)) := by
  refine ev_enter okX2_addSitter.1 (Nat.le_of_ble_eq_true rfl) ?_
  refine ev_aload_n dX2_addSitter_0 rfl ?_
  refine ev_getr 4 dX2_addSitter_1 (pk0 hp) rfl flX2_19 iwX2 (by decide) rfl ?_
  refine ev_aload_n dX2_addSitter_4 rfl ?_
  refine ev_geti 3 3 dX2_addSitter_5 (pk0 hp) rfl flX2_55 iwX2 (by decide) rfl rfl ?_
  refine ev_iload_n dX2_addSitter_8 rfl ?_
  refine ev_iast dX2_addSitter_9 (pk2 hp) (by omega) ?_
  refine ev_aload_n dX2_addSitter_10 rfl ?_
  refine ev_getr 5 dX2_addSitter_11 (pk0 hp) rfl flX2_22 iwX2 (by decide) rfl ?_
  refine ev_aload_n dX2_addSitter_14 rfl ?_
  refine ev_geti 3 3 dX2_addSitter_15 (pk0 hp) rfl flX2_55 iwX2 (by decide) rfl rfl ?_
  simp (disch := omega) only [mr1, mr2, mr3, cr1, cr2, cr3]
  refine ev_bipush dX2_addSitter_18 (by decide) ?_
  refine ev_iast dX2_addSitter_20 (pk3 hp) (by omega) ?_
  refine ev_aload_n dX2_addSitter_21 rfl ?_
  refine ev_getr 6 dX2_addSitter_22 (pk0 hp) rfl flX2_25 iwX2 (by decide) rfl ?_
  refine ev_aload_n dX2_addSitter_25 rfl ?_
  refine ev_geti 3 3 dX2_addSitter_26 (pk0 hp) rfl flX2_55 iwX2 (by decide) rfl rfl ?_
  simp (disch := omega) only [mr1, mr2, mr3, cr1, cr2, cr3]
  refine ev_iconst dX2_addSitter_29 ?_
  refine ev_iast dX2_addSitter_30 (pk4 hp) (by omega) ?_
  refine ev_aload_n dX2_addSitter_31 rfl ?_
  refine ev_getr 7 dX2_addSitter_32 (pk0 hp) rfl flX2_28 iwX2 (by decide) rfl ?_
  refine ev_aload_n dX2_addSitter_35 rfl ?_
  refine ev_geti 3 3 dX2_addSitter_36 (pk0 hp) rfl flX2_55 iwX2 (by decide) rfl rfl ?_
  simp (disch := omega) only [mr1, mr2, mr3, cr1, cr2, cr3]
  refine ev_aload_n dX2_addSitter_39 rfl ?_
  refine ev_geti 2 2 dX2_addSitter_40 (pk0 hp) rfl flX2_52 iwX2 (by decide) rfl rfl ?_
  simp (disch := omega) only [mr1, mr2, mr3, cr1, cr2, cr3]
  refine ev_iast dX2_addSitter_43 (pk5 hp) (by omega) ?_
  refine ev_aload_n dX2_addSitter_44 rfl ?_
  refine ev_dup dX2_addSitter_45 rfl ?_
  refine ev_geti 3 3 dX2_addSitter_46 (pk0 hp) rfl flX2_55 iwX2 (by decide) rfl rfl ?_
  simp (disch := omega) only [mr1, mr2, mr3, cr1, cr2, cr3]
  refine ev_iconst dX2_addSitter_49 ?_
  refine ev_iadd dX2_addSitter_50 ?_
  refine ev_put (ty := .int) 3 3 dX2_addSitter_51 (pk0 hp) rfl flX2_55 iwX2 tyX2_ok nmX2 (by decide) rfl rfl (by decide +kernel) rfl rfl rfl ?_
  refine ev_aload_n dX2_addSitter_54 rfl ?_
  refine ev_geti 3 3 dX2_addSitter_55 (pk0 hp) rfl flX2_55 iwX2 (by decide) rfl rfl ?_
  simp (disch := omega) only [mr1, mr2, mr3, cr1, cr2, cr3]
  refine ev_iconst dX2_addSitter_58 ?_
  refine ev_isub dX2_addSitter_59 ?_
  refine ev_iret dX2_addSitter_60 rfl rfl ?_
  refine ⟨?_, rfl⟩
  rw [Int.add_sub_cancel]
theorem c_X2_addLikeness {b : ev_B} {σ : ev_M} {p : Nat} {k c : Int} (hp : isP p) (h1 : 0 ≤ σ p 8 ∧ σ p 8 < 8) : CF b mX2_addLikeness [vR p, vI k, vI c] σ (some (vI (σ p 8))) (mup (mup (mup (mup σ (p + 6) (σ p 8) c) (p + 7) (σ p 8) k) (p + 8) (σ p 8) 0) p 8 (σ p 8 + 1)) := by
  refine ev_enter okX2_addLikeness.1 (Nat.le_of_ble_eq_true rfl) ?_
  refine ev_aload_n dX2_addLikeness_0 rfl ?_
  refine ev_getr 9 dX2_addLikeness_1 (pk0 hp) rfl flX2_31 iwX2 (by decide) rfl ?_
  refine ev_aload_n dX2_addLikeness_4 rfl ?_
  refine ev_geti 8 8 dX2_addLikeness_5 (pk0 hp) rfl flX2_58 iwX2 (by decide) rfl rfl ?_
  refine ev_iload_n dX2_addLikeness_8 rfl ?_
  refine ev_iast dX2_addLikeness_9 (pk6 hp) (by omega) ?_
  refine ev_aload_n dX2_addLikeness_10 rfl ?_
  refine ev_getr 10 dX2_addLikeness_11 (pk0 hp) rfl flX2_34 iwX2 (by decide) rfl ?_
  refine ev_aload_n dX2_addLikeness_14 rfl ?_
  refine ev_geti 8 8 dX2_addLikeness_15 (pk0 hp) rfl flX2_58 iwX2 (by decide) rfl rfl ?_
  simp (disch := omega) only [mr1, mr2, mr3, cr1, cr2, cr3]
  refine ev_iload_n dX2_addLikeness_18 rfl ?_
  refine ev_iast dX2_addLikeness_19 (pk7 hp) (by omega) ?_
  refine ev_aload_n dX2_addLikeness_20 rfl ?_
  refine ev_getr 11 dX2_addLikeness_21 (pk0 hp) rfl flX2_37 iwX2 (by decide) rfl ?_
  refine ev_aload_n dX2_addLikeness_24 rfl ?_
  refine ev_geti 8 8 dX2_addLikeness_25 (pk0 hp) rfl flX2_58 iwX2 (by decide) rfl rfl ?_
  simp (disch := omega) only [mr1, mr2, mr3, cr1, cr2, cr3]
  refine ev_iconst dX2_addLikeness_28 ?_
  refine ev_iast dX2_addLikeness_29 (pk8 hp) (by omega) ?_
  refine ev_aload_n dX2_addLikeness_30 rfl ?_
  refine ev_dup dX2_addLikeness_31 rfl ?_
  refine ev_geti 8 8 dX2_addLikeness_32 (pk0 hp) rfl flX2_58 iwX2 (by decide) rfl rfl ?_
  simp (disch := omega) only [mr1, mr2, mr3, cr1, cr2, cr3]
  refine ev_iconst dX2_addLikeness_35 ?_
  refine ev_iadd dX2_addLikeness_36 ?_
  refine ev_put (ty := .int) 8 8 dX2_addLikeness_37 (pk0 hp) rfl flX2_58 iwX2 tyX2_ok nmX2 (by decide) rfl rfl (by decide +kernel) rfl rfl rfl ?_
  refine ev_aload_n dX2_addLikeness_40 rfl ?_
  refine ev_geti 8 8 dX2_addLikeness_41 (pk0 hp) rfl flX2_58 iwX2 (by decide) rfl rfl ?_
  simp (disch := omega) only [mr1, mr2, mr3, cr1, cr2, cr3]
  refine ev_iconst dX2_addLikeness_44 ?_
  refine ev_isub dX2_addLikeness_45 ?_
  refine ev_iret dX2_addLikeness_46 rfl rfl ?_
  refine ⟨?_, rfl⟩
  rw [Int.add_sub_cancel]
/-- what is live of two plains is the same -/
def eqP (P P' : ev_M) : Prop := P 0 1 = P' 0 1 ∧ P 0 2 = P' 0 2 ∧ P 0 3 = P' 0 3 ∧ P 0 8 = P' 0 8 ∧ (∀ c : Int, 0 ≤ c ∧ c < 48 → P 1 c = P' 1 c) ∧ (∀ k : Int, 0 ≤ k ∧ k < P' 0 3 → P 2 k = P' 2 k ∧ P 3 k = P' 3 k ∧ P 4 k = P' 4 k ∧ P 5 k = P' 5 k) ∧ (∀ l : Int, 0 ≤ l ∧ l < P' 0 8 → P 6 l = P' 6 l ∧ P 7 l = P' 7 l ∧ P 8 l = P' 8 l)
/-- nothing but a plain of the class has changed -/
def frP (p : Nat) (σ τ : ev_M) : Prop := ∀ a : Nat, a < p ∨ p + 8 < a → τ a = σ a
theorem c_X2_become {b : ev_B} {σ : ev_M} {p q : Nat} (hp : isP p) (hq : isP q) (hpq : p ≠ q) (H : okP (wn σ q)) : Cl b mX2_become [vR p, vR q] σ (fun r τ => r = none ∧ eqP (wn τ p) (wn σ q) ∧ frP p σ τ) := by
  refine ev_enter okX2_become.1 (Nat.le_of_ble_eq_true rfl) ?_
  have h0 := ok0 H
  have ha : p + 9 ≤ q ∨ q + 9 ≤ p := by
    rcases hp with rfl | rfl | rfl <;> rcases hq with rfl | rfl | rfl <;> omega
  refine ev_aload_n dX2_become_0 rfl ?_
  refine ev_getr 0 dX2_become_1 (pk0 hq) rfl flX2_9 iwX2 (by decide) rfl ?_
  refine ev_iconst dX2_become_4 ?_
  refine ev_aload_n dX2_become_5 rfl ?_
  refine ev_getr 0 dX2_become_6 (pk0 hp) rfl flX2_9 iwX2 (by decide) rfl ?_
  refine ev_iconst dX2_become_9 ?_
  refine ev_bipush dX2_become_10 (by decide) ?_
  refine ev_copyi dX2_become_12 mlX2_46 ac_n ac_s ac_i (pk1 hq) (pk1 hp) (by omega) (by omega) (by omega) (by omega) (by omega) ⟨by decide, Nat.le_of_ble_eq_true rfl⟩ ?_
  refine ev_aload_n dX2_become_15 rfl ?_
  refine ev_aload_n dX2_become_16 rfl ?_
  refine ev_geti 1 1 dX2_become_17 (pk0 hq) rfl flX2_15 iwX2 (by decide) rfl rfl ?_
  simp (disch := omega) only [mr1, mr2, mr3, cr1, cr2, cr3]
  refine ev_put (ty := .int) 1 1 dX2_become_20 (pk0 hp) rfl flX2_15 iwX2 tyX2_ok nmX2 (by decide) rfl rfl (by decide +kernel) rfl rfl rfl ?_
  refine ev_aload_n dX2_become_23 rfl ?_
  refine ev_aload_n dX2_become_24 rfl ?_
  refine ev_geti 2 2 dX2_become_25 (pk0 hq) rfl flX2_52 iwX2 (by decide) rfl rfl ?_
  simp (disch := omega) only [mr1, mr2, mr3, cr1, cr2, cr3]
  refine ev_put (ty := .int) 2 2 dX2_become_28 (pk0 hp) rfl flX2_52 iwX2 tyX2_ok nmX2 (by decide) rfl rfl (by decide +kernel) rfl rfl rfl ?_
  refine ev_aload_n dX2_become_31 rfl ?_
  refine ev_aload_n dX2_become_32 rfl ?_
  refine ev_geti 3 3 dX2_become_33 (pk0 hq) rfl flX2_55 iwX2 (by decide) rfl rfl ?_
  simp (disch := omega) only [mr1, mr2, mr3, cr1, cr2, cr3]
  refine ev_put (ty := .int) 3 3 dX2_become_36 (pk0 hp) rfl flX2_55 iwX2 tyX2_ok nmX2 (by decide) rfl rfl (by decide +kernel) rfl rfl rfl ?_
  refine ev_aload_n dX2_become_39 rfl ?_
  refine ev_getr 4 dX2_become_40 (pk0 hq) rfl flX2_19 iwX2 (by decide) rfl ?_
  refine ev_iconst dX2_become_43 ?_
  refine ev_aload_n dX2_become_44 rfl ?_
  refine ev_getr 4 dX2_become_45 (pk0 hp) rfl flX2_19 iwX2 (by decide) rfl ?_
  refine ev_iconst dX2_become_48 ?_
  refine ev_aload_n dX2_become_49 rfl ?_
  refine ev_geti 3 3 dX2_become_50 (pk0 hp) rfl flX2_55 iwX2 (by decide) rfl rfl ?_
  simp (disch := omega) only [mr1, mr2, mr3, cr1, cr2, cr3]
  refine ev_copyi dX2_become_53 mlX2_46 ac_n ac_s ac_i (pk2 hq) (pk2 hp) (by omega) (by omega) (by omega) (by omega) (by omega) ⟨by decide, Nat.le_of_ble_eq_true rfl⟩ ?_
  refine ev_aload_n dX2_become_56 rfl ?_
  refine ev_getr 5 dX2_become_57 (pk0 hq) rfl flX2_22 iwX2 (by decide) rfl ?_
  refine ev_iconst dX2_become_60 ?_
  refine ev_aload_n dX2_become_61 rfl ?_
  refine ev_getr 5 dX2_become_62 (pk0 hp) rfl flX2_22 iwX2 (by decide) rfl ?_
  refine ev_iconst dX2_become_65 ?_
  refine ev_aload_n dX2_become_66 rfl ?_
  refine ev_geti 3 3 dX2_become_67 (pk0 hp) rfl flX2_55 iwX2 (by decide) rfl rfl ?_
  simp (disch := omega) only [mr1, mr2, mr3, cr1, cr2, cr3]
  refine ev_copyi dX2_become_70 mlX2_46 ac_n ac_s ac_i (pk3 hq) (pk3 hp) (by omega) (by omega) (by omega) (by omega) (by omega) ⟨by decide, Nat.le_of_ble_eq_true rfl⟩ ?_
  refine ev_aload_n dX2_become_73 rfl ?_
  refine ev_getr 6 dX2_become_74 (pk0 hq) rfl flX2_25 iwX2 (by decide) rfl ?_
  refine ev_iconst dX2_become_77 ?_
  refine ev_aload_n dX2_become_78 rfl ?_
  refine ev_getr 6 dX2_become_79 (pk0 hp) rfl flX2_25 iwX2 (by decide) rfl ?_
  refine ev_iconst dX2_become_82 ?_
  refine ev_aload_n dX2_become_83 rfl ?_
  refine ev_geti 3 3 dX2_become_84 (pk0 hp) rfl flX2_55 iwX2 (by decide) rfl rfl ?_
  simp (disch := omega) only [mr1, mr2, mr3, cr1, cr2, cr3]
  refine ev_copyi dX2_become_87 mlX2_46 ac_n ac_s ac_i (pk4 hq) (pk4 hp) (by omega) (by omega) (by omega) (by omega) (by omega) ⟨by decide, Nat.le_of_ble_eq_true rfl⟩ ?_
  refine ev_aload_n dX2_become_90 rfl ?_
  refine ev_getr 7 dX2_become_91 (pk0 hq) rfl flX2_28 iwX2 (by decide) rfl ?_
  refine ev_iconst dX2_become_94 ?_
  refine ev_aload_n dX2_become_95 rfl ?_
  refine ev_getr 7 dX2_become_96 (pk0 hp) rfl flX2_28 iwX2 (by decide) rfl ?_
  refine ev_iconst dX2_become_99 ?_
  refine ev_aload_n dX2_become_100 rfl ?_
  refine ev_geti 3 3 dX2_become_101 (pk0 hp) rfl flX2_55 iwX2 (by decide) rfl rfl ?_
  simp (disch := omega) only [mr1, mr2, mr3, cr1, cr2, cr3]
  refine ev_copyi dX2_become_104 mlX2_46 ac_n ac_s ac_i (pk5 hq) (pk5 hp) (by omega) (by omega) (by omega) (by omega) (by omega) ⟨by decide, Nat.le_of_ble_eq_true rfl⟩ ?_
  refine ev_aload_n dX2_become_107 rfl ?_
  refine ev_aload_n dX2_become_108 rfl ?_
  refine ev_geti 8 8 dX2_become_109 (pk0 hq) rfl flX2_58 iwX2 (by decide) rfl rfl ?_
  simp (disch := omega) only [mr1, mr2, mr3, cr1, cr2, cr3]
  refine ev_put (ty := .int) 8 8 dX2_become_112 (pk0 hp) rfl flX2_58 iwX2 tyX2_ok nmX2 (by decide) rfl rfl (by decide +kernel) rfl rfl rfl ?_
  refine ev_aload_n dX2_become_115 rfl ?_
  refine ev_getr 9 dX2_become_116 (pk0 hq) rfl flX2_31 iwX2 (by decide) rfl ?_
  refine ev_iconst dX2_become_119 ?_
  refine ev_aload_n dX2_become_120 rfl ?_
  refine ev_getr 9 dX2_become_121 (pk0 hp) rfl flX2_31 iwX2 (by decide) rfl ?_
  refine ev_iconst dX2_become_124 ?_
  refine ev_aload_n dX2_become_125 rfl ?_
  refine ev_geti 8 8 dX2_become_126 (pk0 hp) rfl flX2_58 iwX2 (by decide) rfl rfl ?_
  simp (disch := omega) only [mr1, mr2, mr3, cr1, cr2, cr3]
  refine ev_copyi dX2_become_129 mlX2_46 ac_n ac_s ac_i (pk6 hq) (pk6 hp) (by omega) (by omega) (by omega) (by omega) (by omega) ⟨by decide, Nat.le_of_ble_eq_true rfl⟩ ?_
  refine ev_aload_n dX2_become_132 rfl ?_
  refine ev_getr 10 dX2_become_133 (pk0 hq) rfl flX2_34 iwX2 (by decide) rfl ?_
  refine ev_iconst dX2_become_136 ?_
  refine ev_aload_n dX2_become_137 rfl ?_
  refine ev_getr 10 dX2_become_138 (pk0 hp) rfl flX2_34 iwX2 (by decide) rfl ?_
  refine ev_iconst dX2_become_141 ?_
  refine ev_aload_n dX2_become_142 rfl ?_
  refine ev_geti 8 8 dX2_become_143 (pk0 hp) rfl flX2_58 iwX2 (by decide) rfl rfl ?_
  simp (disch := omega) only [mr1, mr2, mr3, cr1, cr2, cr3]
  refine ev_copyi dX2_become_146 mlX2_46 ac_n ac_s ac_i (pk7 hq) (pk7 hp) (by omega) (by omega) (by omega) (by omega) (by omega) ⟨by decide, Nat.le_of_ble_eq_true rfl⟩ ?_
  refine ev_aload_n dX2_become_149 rfl ?_
  refine ev_getr 11 dX2_become_150 (pk0 hq) rfl flX2_37 iwX2 (by decide) rfl ?_
  refine ev_iconst dX2_become_153 ?_
  refine ev_aload_n dX2_become_154 rfl ?_
  refine ev_getr 11 dX2_become_155 (pk0 hp) rfl flX2_37 iwX2 (by decide) rfl ?_
  refine ev_iconst dX2_become_158 ?_
  refine ev_aload_n dX2_become_159 rfl ?_
  refine ev_geti 8 8 dX2_become_160 (pk0 hp) rfl flX2_58 iwX2 (by decide) rfl rfl ?_
  simp (disch := omega) only [mr1, mr2, mr3, cr1, cr2, cr3]
  refine ev_copyi dX2_become_163 mlX2_46 ac_n ac_s ac_i (pk8 hq) (pk8 hp) (by omega) (by omega) (by omega) (by omega) (by omega) ⟨by decide, Nat.le_of_ble_eq_true rfl⟩ ?_
  refine ev_vret dX2_become_166 rfl ?_
  refine ⟨rfl, ⟨?_, ?_, ?_, ?_, ?_, ?_, ?_⟩, ?_⟩
  · simp only [wn0, wn1, wn2, wn3, wn4, wn5, wn6, wn7, wn8]
    simp (disch := omega) only [mr1, mr2, mr3, cr1, cr2, cr3]
  · simp only [wn0, wn1, wn2, wn3, wn4, wn5, wn6, wn7, wn8]
    simp (disch := omega) only [mr1, mr2, mr3, cr1, cr2, cr3]
  · simp only [wn0, wn1, wn2, wn3, wn4, wn5, wn6, wn7, wn8]
    simp (disch := omega) only [mr1, mr2, mr3, cr1, cr2, cr3]
  · simp only [wn0, wn1, wn2, wn3, wn4, wn5, wn6, wn7, wn8]
    simp (disch := omega) only [mr1, mr2, mr3, cr1, cr2, cr3]
  · intro c hc
    simp only [wn0, wn1, wn2, wn3, wn4, wn5, wn6, wn7, wn8]
    simp (disch := omega) only [mr1, mr2, mr3, cr1, cr2, cr3]
    rw [Int.zero_add, Int.sub_zero]
  · intro k hk
    simp only [wn0, wn1, wn2, wn3, wn4, wn5, wn6, wn7, wn8] at hk ⊢
    simp (disch := omega) only [mr1, mr2, mr3, cr1, cr2, cr3]
    simp only [Int.zero_add, Int.sub_zero, and_self]
  · intro k hk
    simp only [wn0, wn1, wn2, wn3, wn4, wn5, wn6, wn7, wn8] at hk ⊢
    simp (disch := omega) only [mr1, mr2, mr3, cr1, cr2, cr3]
    simp only [Int.zero_add, Int.sub_zero, and_self]
  · intro a h
    simp (disch := omega) only [fr1, fr2]
