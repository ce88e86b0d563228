/-! the constructors -/
def nX0 : ev_Y := (yX0_init, cX0_init, 1, none, { frames := 1, cells := 5, slots := 172, locals := 20 })
theorem kokX0 : kOk nX0 := ⟨kcX0, knX0, kjX0, rfl, ⟨by decide, by decide, by decide +kernel⟩⟩
abbrev eX0 : va_E := .inr (0, [.null, .null, .null, .null, .null])
def nX2 : ev_Y := (yX2_init, cX2_init, 1, none, { frames := 1, cells := 8, slots := 96, locals := 23 })
theorem kokX2 : kOk nX2 := ⟨kcX2, knX2, kjX2, rfl, ⟨by decide, by decide, by decide +kernel⟩⟩
abbrev eX2 : va_E := .inr (1, [.null, .int (Int32.ofInt 0), .int (Int32.ofInt 0), .int (Int32.ofInt 0), .null, .null, .null, .null, .int (Int32.ofInt 0), .null, .null, .null])
def nX3 : ev_Y := (yX3_init, cX3_init, 1, none, { frames := 1, cells := 1, slots := 40, locals := 20 })
theorem kokX3 : kOk nX3 := ⟨kcX3, knX3, kjX3, rfl, ⟨by decide, by decide, by decide +kernel⟩⟩
abbrev eX3 : va_E := .inr (2, [.null, .int (Int32.ofInt 0), .int (Int32.ofInt 0)])
def nX4 : ev_Y := (yX4_init, cX4_init, 1, none, { frames := 1, cells := 1, slots := 120, locals := 20 })
theorem kokX4 : kOk nX4 := ⟨kcX4, knX4, kjX4, rfl, ⟨by decide, by decide, by decide +kernel⟩⟩
abbrev eX4 : va_E := .inr (3, [.null, .int (Int32.ofInt 0), .int (Int32.ofInt 0), .int (Int32.ofInt 0), .int (Int32.ofInt 0), .int (Int32.ofInt 0), .int (Int32.ofInt 0)])
def nX5 : ev_Y := (yX5_init, cX5_init, 2, none, { frames := 2, cells := 45, slots := 811, locals := 43 })
theorem kokX5 : kOk nX5 := ⟨kcX5, knX5, kjX5, rfl, ⟨by decide, by decide, by decide +kernel⟩⟩
abbrev eX5 : va_E := .inr (4, [.null, .null, .null, .null, .null, .null, .null, .int (Int32.ofInt 0)])
def nX6 : ev_Y := (yX6_init, cX6_init, 2, none, { frames := 1, cells := 13, slots := 893, locals := 20 })
theorem kokX6 : kOk nX6 := ⟨kcX6, knX6, kjX6, rfl, ⟨by decide, by decide, by decide +kernel⟩⟩
abbrev eX6 : va_E := .inr (5, [.null, .null, .null, .null, .null, .int (Int32.ofInt 0), .int (Int32.ofInt 0), .null, .null, .null, .null, .int (Int32.ofInt 0), .int (Int32.ofInt 0), .int (Int32.ofInt 0), .int (Int32.ofInt 0), .int (Int32.ofInt 0), .null, .null, .null, .null])
def nFl : ev_Y := (yJ7_fill_53178, cJ7_fill_53178, 4, none, { frames := 0, cells := 0, slots := 0, locals := 0 })
def flr (k : Nat) : Nat → Int32 := fun j => Int32.ofInt (if j < k then 10 else 0)
theorem flr_0 : flr 0 = fun _ => Int32.ofInt 0 := by funext j; unfold flr; rw [if_neg (by omega)]
theorem flr_s {k : Nat} : upd (flr k) k (Int32.ofInt 10) = flr (k + 1) := by
  funext j
  unfold upd flr
  by_cases h : j = k
  · rw [if_pos h, if_pos (by omega)]
  · rw [if_neg h]
    by_cases h2 : j < k
    · rw [if_pos h2, if_pos (by omega)]
    · rw [if_neg h2, if_neg (by omega)]
theorem flr_48 : flr 48 = fun j : Nat => Int32.ofInt (s0 2 j) := by
  funext j
  unfold flr
  show _ = Int32.ofInt (if 0 ≤ (j : Int) ∧ (j : Int) < 48 then 10 else 0)
  by_cases h : j < 48
  · rw [if_pos h, if_pos (by omega)]
  · rw [if_neg h, if_neg (by omega)]
theorem k_fill {D : va_G} {cs : Nat → ClassId} {a : Nat} : Kc D cs nFl [.ref a, .int (Int32.ofInt 10)] a (.inl (cs 0, 48, .inl (fun _ => Int32.ofInt 0))) (fun w => w = [(a, .inl (cs 0, 48, .inl (fun j : Nat => Int32.ofInt (s0 2 j))))]) := by
  refine kv_enter (by decide) (Nat.le_of_ble_eq_true rfl) ?_
  refine kv_iconst dJ7_fill_53178_0 ?_
  refine kv_istore dJ7_fill_53178_1 (by decide) rfl ?_
  refine kv_aload 1 dJ7_fill_53178_2 rfl ?_
  refine kv_alen 0 dJ7_fill_53178_3 rfl ?_
  refine kv_istore dJ7_fill_53178_4 (by decide) rfl ?_
  refine kv_ls (ls' := [(0, .ref a), (1, .int (Int32.ofInt 10)), (2, .int (Int32.ofInt 0)), (3, .int (Int32.ofNat 48))]) [2, 3, 1, 0] rfl ?_
  have loop : ∀ (m k : Nat), k + m = 48 → Kv D cs nFl 0 0 5 [(0, .ref a), (1, .int (Int32.ofInt 10)), (2, .int (Int32.ofInt k)), (3, .int (Int32.ofNat 48))] [] [(a, .inl (cs 0, 48, .inl (flr k)))] (kR nFl (fun w => w = [(a, .inl (cs 0, 48, .inl (fun j : Nat => Int32.ofInt (s0 2 j))))])) := by
    intro m
    induction m with
    | zero =>
      intro k hk
      have e : k = 48 := by omega
      subst e
      refine kv_iload 2 dJ7_fill_53178_5 rfl ?_
      refine kv_iload 3 dJ7_fill_53178_6 rfl ?_
      refine kv_ge (tgt := 20) dJ7_fill_53178_7 (by decide) (fun _ => ?_) (fun h => absurd (by decide) h)
      exact kv_ret dJ7_fill_53178_20 (by decide) (by decide) (by rw [flr_48])
    | succ m ih =>
      intro k hk
      refine kv_iload 2 dJ7_fill_53178_5 rfl ?_
      refine kv_iload 3 dJ7_fill_53178_6 rfl ?_
      refine kv_ge (tgt := 20) dJ7_fill_53178_7 (by decide) (fun h => ?_) (fun _ => ?_)
      · exfalso
        have h2 := (ev_le (x := 48) (y := k) (by omega) (by omega)).mp h
        omega
      · refine kv_aload 0 dJ7_fill_53178_10 rfl ?_
        refine kv_iload 2 dJ7_fill_53178_11 rfl ?_
        refine kv_iload 1 dJ7_fill_53178_12 rfl ?_
        refine kv_iast 0 dJ7_fill_53178_13 rfl (ev_in (by omega) (by omega)) ?_
        rw [ev_nn (by omega), Int.toNat_natCast, flr_s]
        refine kv_iinc (k := 2) (v := Int32.ofInt ((k + 1 : Nat) : Int)) dJ7_fill_53178_14 rfl (by rw [← Int32.ofInt_add]; rfl) (by decide) rfl ?_
        refine kv_goto (tgt := 5) dJ7_fill_53178_17 (by decide) ?_
        refine kv_ls (ls' := [(0, .ref a), (1, .int (Int32.ofInt 10)), (2, .int (Int32.ofInt ((k + 1 : Nat) : Int))), (3, .int (Int32.ofNat 48))]) [1, 2, 0, 3] rfl ?_
        exact ih (k + 1) (by omega)
  have l := loop 48 0 (by omega)
  rw [flr_0] at l
  exact l
abbrev wX3 (cs : Nat → ClassId) (u : Nat → Nat) : va_W := [((u 0), .inr (2, [.ref (u 1), .int (Int32.ofInt 0), .int (Int32.ofInt 0)])), ((u 1), .inl (cs 1, 40, .inr (.inl (fun _ => Int64.ofInt 0))))]
theorem k_X3 {D : va_G} {cs : Nat → ClassId} {h0 : Nat} : Kc D cs nX3 [.ref h0] h0 eX3 (fun w => ∃ u : Nat → Nat, u 0 = h0 ∧ w = wX3 cs u) := by
  refine kv_enter (by decide) (Nat.le_of_ble_eq_true rfl) ?_
  refine kv_aload 0 dX3_init_0 rfl ?_
  refine kv_obj dX3_init_1 koX3 ⟨by decide, by decide⟩ ?_
  refine kv_aload 0 dX3_init_4 rfl ?_
  refine kv_bipush dX3_init_5 (by decide) ?_
  refine kv_newl (N := 40) dX3_init_7 (by decide) rfl (by decide) (by decide) (by decide) (fun q1 => ?_)
  refine kv_putr (ty := .array .long) 0 dX3_init_9 rfl flX3_9 iwX3 tyX3_ok nmX3 (by decide) rfl rfl rfl (by decide +kernel) rfl rfl (Nat.le_of_ble_eq_true rfl) ?_
  exact kv_ret dX3_init_12 (by decide) (by decide) ⟨fun k => [h0, q1].getD k 0, rfl, rfl⟩
abbrev wX4 (cs : Nat → ClassId) (u : Nat → Nat) : va_W := [((u 0), .inr (3, [.ref (u 1), .int (Int32.ofInt 0), .int (Int32.ofInt 0), .int (Int32.ofInt 0), .int (Int32.ofInt 0), .int (Int32.ofInt 0), .int (Int32.ofInt 0)])), ((u 1), .inl (cs 0, 120, .inl (fun _ => Int32.ofInt 0)))]
theorem k_X4 {D : va_G} {cs : Nat → ClassId} {h0 : Nat} : Kc D cs nX4 [.ref h0] h0 eX4 (fun w => ∃ u : Nat → Nat, u 0 = h0 ∧ w = wX4 cs u) := by
  refine kv_enter (by decide) (Nat.le_of_ble_eq_true rfl) ?_
  refine kv_aload 0 dX4_init_0 rfl ?_
  refine kv_obj dX4_init_1 koX4 ⟨by decide, by decide⟩ ?_
  refine kv_aload 0 dX4_init_4 rfl ?_
  refine kv_bipush dX4_init_5 (by decide) ?_
  refine kv_newi (N := 120) dX4_init_7 (by decide) rfl (by decide) (by decide) (by decide) (fun q1 => ?_)
  refine kv_putr (ty := .array .int) 0 dX4_init_9 rfl flX4_11 iwX4 tyX4_ok nmX4 (by decide) rfl rfl rfl (by decide +kernel) rfl rfl (Nat.le_of_ble_eq_true rfl) ?_
  exact kv_ret dX4_init_12 (by decide) (by decide) ⟨fun k => [h0, q1].getD k 0, rfl, rfl⟩
abbrev wX0 (cs : Nat → ClassId) (u : Nat → Nat) : va_W := [((u 0), .inr (0, [.ref (u 1), .ref (u 2), .ref (u 3), .ref (u 4), .ref (u 5)])), ((u 1), .inl (cs 0, 48, .inl (fun _ => Int32.ofInt 0))), ((u 2), .inl (cs 0, 8, .inl (fun _ => Int32.ofInt 0))), ((u 3), .inl (cs 0, 104, .inl (fun _ => Int32.ofInt 0))), ((u 4), .inl (cs 0, 6, .inl (fun _ => Int32.ofInt 0))), ((u 5), .inl (cs 0, 6, .inl (fun _ => Int32.ofInt 0)))]
theorem k_X0 {D : va_G} {cs : Nat → ClassId} {h0 : Nat} : Kc D cs nX0 [.ref h0] h0 eX0 (fun w => ∃ u : Nat → Nat, u 0 = h0 ∧ w = wX0 cs u) := by
  refine kv_enter (by decide) (Nat.le_of_ble_eq_true rfl) ?_
  refine kv_aload 0 dX0_init_0 rfl ?_
  refine kv_obj dX0_init_1 koX0 ⟨by decide, by decide⟩ ?_
  refine kv_aload 0 dX0_init_4 rfl ?_
  refine kv_bipush dX0_init_5 (by decide) ?_
  refine kv_newi (N := 48) dX0_init_7 (by decide) rfl (by decide) (by decide) (by decide) (fun q1 => ?_)
  refine kv_putr (ty := .array .int) 0 dX0_init_9 rfl flX0_9 iwX0 tyX0_ok nmX0 (by decide) rfl rfl rfl (by decide +kernel) rfl rfl (Nat.le_of_ble_eq_true rfl) ?_
  refine kv_aload 0 dX0_init_12 rfl ?_
  refine kv_bipush dX0_init_13 (by decide) ?_
  refine kv_newi (N := 8) dX0_init_15 (by decide) rfl (by decide) (by decide) (by decide) (fun q2 => ?_)
  refine kv_putr (ty := .array .int) 1 dX0_init_17 rfl flX0_15 iwX0 tyX0_ok nmX0 (by decide) rfl rfl rfl (by decide +kernel) rfl rfl (Nat.le_of_ble_eq_true rfl) ?_
  refine kv_aload 0 dX0_init_20 rfl ?_
  refine kv_bipush dX0_init_21 (by decide) ?_
  refine kv_newi (N := 104) dX0_init_23 (by decide) rfl (by decide) (by decide) (by decide) (fun q3 => ?_)
  refine kv_putr (ty := .array .int) 2 dX0_init_25 rfl flX0_18 iwX0 tyX0_ok nmX0 (by decide) rfl rfl rfl (by decide +kernel) rfl rfl (Nat.le_of_ble_eq_true rfl) ?_
  refine kv_aload 0 dX0_init_28 rfl ?_
  refine kv_bipush dX0_init_29 (by decide) ?_
  refine kv_newi (N := 6) dX0_init_31 (by decide) rfl (by decide) (by decide) (by decide) (fun q4 => ?_)
  refine kv_putr (ty := .array .int) 3 dX0_init_33 rfl flX0_21 iwX0 tyX0_ok nmX0 (by decide) rfl rfl rfl (by decide +kernel) rfl rfl (Nat.le_of_ble_eq_true rfl) ?_
  refine kv_aload 0 dX0_init_36 rfl ?_
  refine kv_bipush dX0_init_37 (by decide) ?_
  refine kv_newi (N := 6) dX0_init_39 (by decide) rfl (by decide) (by decide) (by decide) (fun q5 => ?_)
  refine kv_putr (ty := .array .int) 4 dX0_init_41 rfl flX0_24 iwX0 tyX0_ok nmX0 (by decide) rfl rfl rfl (by decide +kernel) rfl rfl (Nat.le_of_ble_eq_true rfl) ?_
  exact kv_ret dX0_init_44 (by decide) (by decide) ⟨fun k => [h0, q1, q2, q3, q4, q5].getD k 0, rfl, rfl⟩
abbrev wX2 (cs : Nat → ClassId) (u : Nat → Nat) : va_W := [((u 0), .inr (1, [.ref (u 1), .int (Int32.ofInt 3), .int (Int32.ofInt 0), .int (Int32.ofInt 0), .ref (u 2), .ref (u 3), .ref (u 4), .ref (u 5), .int (Int32.ofInt 0), .ref (u 6), .ref (u 7), .ref (u 8)])), ((u 1), .inl (cs 0, 48, .inl (fun j : Nat => Int32.ofInt (s0 2 j)))), ((u 2), .inl (cs 0, 6, .inl (fun _ => Int32.ofInt 0))), ((u 3), .inl (cs 0, 6, .inl (fun _ => Int32.ofInt 0))), ((u 4), .inl (cs 0, 6, .inl (fun _ => Int32.ofInt 0))), ((u 5), .inl (cs 0, 6, .inl (fun _ => Int32.ofInt 0))), ((u 6), .inl (cs 0, 8, .inl (fun _ => Int32.ofInt 0))), ((u 7), .inl (cs 0, 8, .inl (fun _ => Int32.ofInt 0))), ((u 8), .inl (cs 0, 8, .inl (fun _ => Int32.ofInt 0)))]
theorem k_X2 {D : va_G} {cs : Nat → ClassId} {h0 : Nat} : Kc D cs nX2 [.ref h0] h0 eX2 (fun w => ∃ u : Nat → Nat, u 0 = h0 ∧ w = wX2 cs u) := by
  refine kv_enter (by decide) (Nat.le_of_ble_eq_true rfl) ?_
  refine kv_aload 0 dX2_init_0 rfl ?_
  refine kv_obj dX2_init_1 koX2 ⟨by decide, by decide⟩ ?_
  refine kv_aload 0 dX2_init_4 rfl ?_
  refine kv_bipush dX2_init_5 (by decide) ?_
  refine kv_newi (N := 48) dX2_init_7 (by decide) rfl (by decide) (by decide) (by decide) (fun q1 => ?_)
  refine kv_putr (ty := .array .int) 0 dX2_init_9 rfl flX2_9 iwX2 tyX2_ok nmX2 (by decide) rfl rfl rfl (by decide +kernel) rfl rfl (Nat.le_of_ble_eq_true rfl) ?_
  refine kv_aload 0 dX2_init_12 rfl ?_
  refine kv_iconst dX2_init_13 ?_
  refine kv_puti 1 dX2_init_14 rfl flX2_15 iwX2 tyX2_ok nmX2 (by decide) rfl (by decide +kernel) (Nat.le_of_ble_eq_true rfl) ?_
  refine kv_aload 0 dX2_init_17 rfl ?_
  refine kv_bipush dX2_init_18 (by decide) ?_
  refine kv_newi (N := 6) dX2_init_20 (by decide) rfl (by decide) (by decide) (by decide) (fun q2 => ?_)
  refine kv_putr (ty := .array .int) 4 dX2_init_22 rfl flX2_19 iwX2 tyX2_ok nmX2 (by decide) rfl rfl rfl (by decide +kernel) rfl rfl (Nat.le_of_ble_eq_true rfl) ?_
  refine kv_aload 0 dX2_init_25 rfl ?_
  refine kv_bipush dX2_init_26 (by decide) ?_
  refine kv_newi (N := 6) dX2_init_28 (by decide) rfl (by decide) (by decide) (by decide) (fun q3 => ?_)
  refine kv_putr (ty := .array .int) 5 dX2_init_30 rfl flX2_22 iwX2 tyX2_ok nmX2 (by decide) rfl rfl rfl (by decide +kernel) rfl rfl (Nat.le_of_ble_eq_true rfl) ?_
  refine kv_aload 0 dX2_init_33 rfl ?_
  refine kv_bipush dX2_init_34 (by decide) ?_
  refine kv_newi (N := 6) dX2_init_36 (by decide) rfl (by decide) (by decide) (by decide) (fun q4 => ?_)
  refine kv_putr (ty := .array .int) 6 dX2_init_38 rfl flX2_25 iwX2 tyX2_ok nmX2 (by decide) rfl rfl rfl (by decide +kernel) rfl rfl (Nat.le_of_ble_eq_true rfl) ?_
  refine kv_aload 0 dX2_init_41 rfl ?_
  refine kv_bipush dX2_init_42 (by decide) ?_
  refine kv_newi (N := 6) dX2_init_44 (by decide) rfl (by decide) (by decide) (by decide) (fun q5 => ?_)
  refine kv_putr (ty := .array .int) 7 dX2_init_46 rfl flX2_28 iwX2 tyX2_ok nmX2 (by decide) rfl rfl rfl (by decide +kernel) rfl rfl (Nat.le_of_ble_eq_true rfl) ?_
  refine kv_aload 0 dX2_init_49 rfl ?_
  refine kv_bipush dX2_init_50 (by decide) ?_
  refine kv_newi (N := 8) dX2_init_52 (by decide) rfl (by decide) (by decide) (by decide) (fun q6 => ?_)
  refine kv_putr (ty := .array .int) 9 dX2_init_54 rfl flX2_31 iwX2 tyX2_ok nmX2 (by decide) rfl rfl rfl (by decide +kernel) rfl rfl (Nat.le_of_ble_eq_true rfl) ?_
  refine kv_aload 0 dX2_init_57 rfl ?_
  refine kv_bipush dX2_init_58 (by decide) ?_
  refine kv_newi (N := 8) dX2_init_60 (by decide) rfl (by decide) (by decide) (by decide) (fun q7 => ?_)
  refine kv_putr (ty := .array .int) 10 dX2_init_62 rfl flX2_34 iwX2 tyX2_ok nmX2 (by decide) rfl rfl rfl (by decide +kernel) rfl rfl (Nat.le_of_ble_eq_true rfl) ?_
  refine kv_aload 0 dX2_init_65 rfl ?_
  refine kv_bipush dX2_init_66 (by decide) ?_
  refine kv_newi (N := 8) dX2_init_68 (by decide) rfl (by decide) (by decide) (by decide) (fun q8 => ?_)
  refine kv_putr (ty := .array .int) 11 dX2_init_70 rfl flX2_37 iwX2 tyX2_ok nmX2 (by decide) rfl rfl rfl (by decide +kernel) rfl rfl (Nat.le_of_ble_eq_true rfl) ?_
  refine kv_aload 0 dX2_init_73 rfl ?_
  refine kv_getr 0 dX2_init_74 rfl flX2_9 iwX2 (by decide) rfl ?_
  refine kv_bipush dX2_init_77 (by decide) ?_
  refine kv_callS (z := nFl) (a := q1) (av := [.ref q1, .int (Int32.ofInt 10)]) (st := []) (wr := (h0, _) :: [(q2, .inl (cs 0, 6, .inl (fun _ => Int32.ofInt 0))), (q3, .inl (cs 0, 6, .inl (fun _ => Int32.ofInt 0))), (q4, .inl (cs 0, 6, .inl (fun _ => Int32.ofInt 0))), (q5, .inl (cs 0, 6, .inl (fun _ => Int32.ofInt 0))), (q6, .inl (cs 0, 8, .inl (fun _ => Int32.ofInt 0))), (q7, .inl (cs 0, 8, .inl (fun _ => Int32.ofInt 0))), (q8, .inl (cs 0, 8, .inl (fun _ => Int32.ofInt 0)))]) 1 [0, 2, 3, 4, 5, 6, 7, 8] k_fill okJ7_fill_53178.1.1 okJ7_fill_53178.1.2.1 okJ7_fill_53178.2 okJ7_fill_53178.1.2.2.1 dX2_init_79 mlX2_40 ⟨by decide, by decide⟩ rfl (by decide) ⟨by decide, by decide⟩ rfl rfl (by decide) (by decide) (fun w hw => ?_)
  subst hw
  refine kv_sub [0, 8, 1, 2, 3, 4, 5, 6, 7] rfl rfl rfl ?_
  exact kv_ret dX2_init_82 (by decide) (by decide) ⟨fun k => [h0, q1, q2, q3, q4, q5, q6, q7, q8].getD k 0, rfl, rfl⟩
def sfr (k : Nat) : Nat → Int32 := fun j => Int32.ofInt (if j = 3 then 3 else if 4 ≤ j ∧ j < 4 + k then 10 else 0)
theorem sfr_0 : upd (fun _ => Int32.ofInt 0) 3 (Int32.ofInt 3) = sfr 0 := by
  funext j
  unfold upd sfr
  by_cases h : j = 3
  · rw [if_pos h, if_pos h]
  · rw [if_neg h, if_neg h, if_neg (by omega)]
theorem sfr_s {k : Nat} : upd (sfr k) (4 + k) (Int32.ofInt 10) = sfr (k + 1) := by
  funext j
  unfold upd sfr
  by_cases h : j = 4 + k
  · rw [if_pos h, if_neg (by omega), if_pos (by omega)]
  · rw [if_neg h]
    by_cases h3 : j = 3
    · rw [if_pos h3, if_pos h3]
    · rw [if_neg h3, if_neg h3]
      by_cases h2 : 4 ≤ j ∧ j < 4 + k
      · rw [if_pos h2, if_pos (by omega)]
      · rw [if_neg h2, if_neg (by omega)]
theorem sfr_48 : sfr 48 = fun j : Nat => Int32.ofInt (s0 47 j) := by
  funext j
  unfold sfr
  show _ = Int32.ofInt (if (j : Int) = 3 then 3 else if 4 ≤ (j : Int) ∧ (j : Int) < 52 then 10 else 0)
  by_cases h3 : j = 3
  · rw [if_pos h3, if_pos (by omega)]
  · rw [if_neg h3, if_neg (show ¬ (j : Int) = 3 by omega)]
    by_cases h2 : 4 ≤ j ∧ j < 4 + 48
    · rw [if_pos h2, if_pos (by omega)]
    · rw [if_neg h2, if_neg (by omega)]
abbrev wX6 (cs : Nat → ClassId) (u : Nat → Nat) : va_W := [((u 0), .inr (5, [.ref (u 1), .ref (u 2), .ref (u 3), .ref (u 4), .ref (u 5), .int (Int32.ofInt 0), .int (Int32.ofInt 0), .ref (u 6), .ref (u 7), .ref (u 8), .ref (u 9), .int (Int32.ofInt 0), .int (Int32.ofInt 0), .int (Int32.ofInt 0), .int (Int32.ofInt 0), .int (Int32.ofInt 0), .ref (u 10), .ref (u 11), .ref (u 12), .ref (u 13)])), ((u 1), .inl (cs 0, 100, .inl (fun j : Nat => Int32.ofInt (s0 47 j)))), ((u 2), .inl (cs 0, 100, .inl (fun _ => Int32.ofInt 0))), ((u 3), .inl (cs 0, 100, .inl (fun _ => Int32.ofInt 0))), ((u 4), .inl (cs 0, 100, .inl (fun _ => Int32.ofInt 0))), ((u 5), .inl (cs 0, 7, .inl (fun _ => Int32.ofInt 0))), ((u 6), .inl (cs 0, 48, .inl (fun _ => Int32.ofInt 0))), ((u 7), .inl (cs 0, 104, .inl (fun _ => Int32.ofInt 0))), ((u 8), .inl (cs 0, 6, .inl (fun _ => Int32.ofInt 0))), ((u 9), .inl (cs 0, 120, .inl (fun _ => Int32.ofInt 0))), ((u 10), .inl (cs 0, 4, .inl (fun _ => Int32.ofInt 0))), ((u 11), .inl (cs 0, 4, .inl (fun _ => Int32.ofInt 0))), ((u 12), .inl (cs 1, 160, .inr (.inl (fun _ => Int64.ofInt 0)))), ((u 13), .inl (cs 1, 40, .inr (.inl (fun _ => Int64.ofInt 0))))]
theorem k_X6 {D : va_G} {cs : Nat → ClassId} {h0 : Nat} : Kc D cs nX6 [.ref h0] h0 eX6 (fun w => ∃ u : Nat → Nat, u 0 = h0 ∧ w = wX6 cs u) := by
  refine kv_enter (by decide) (Nat.le_of_ble_eq_true rfl) ?_
  refine kv_aload 0 dX6_init_0 rfl ?_
  refine kv_obj dX6_init_1 koX6 ⟨by decide, by decide⟩ ?_
  refine kv_aload 0 dX6_init_4 rfl ?_
  refine kv_bipush dX6_init_5 (by decide) ?_
  refine kv_newi (N := 100) dX6_init_7 (by decide) rfl (by decide) (by decide) (by decide) (fun q1 => ?_)
  refine kv_putr (ty := .array .int) 0 dX6_init_9 rfl flX6_7 iwX6 tyX6_ok nmX6 (by decide) rfl rfl rfl (by decide +kernel) rfl rfl (Nat.le_of_ble_eq_true rfl) ?_
  refine kv_aload 0 dX6_init_12 rfl ?_
  refine kv_bipush dX6_init_13 (by decide) ?_
  refine kv_newi (N := 100) dX6_init_15 (by decide) rfl (by decide) (by decide) (by decide) (fun q2 => ?_)
  refine kv_putr (ty := .array .int) 1 dX6_init_17 rfl flX6_13 iwX6 tyX6_ok nmX6 (by decide) rfl rfl rfl (by decide +kernel) rfl rfl (Nat.le_of_ble_eq_true rfl) ?_
  refine kv_aload 0 dX6_init_20 rfl ?_
  refine kv_bipush dX6_init_21 (by decide) ?_
  refine kv_newi (N := 100) dX6_init_23 (by decide) rfl (by decide) (by decide) (by decide) (fun q3 => ?_)
  refine kv_putr (ty := .array .int) 2 dX6_init_25 rfl flX6_16 iwX6 tyX6_ok nmX6 (by decide) rfl rfl rfl (by decide +kernel) rfl rfl (Nat.le_of_ble_eq_true rfl) ?_
  refine kv_aload 0 dX6_init_28 rfl ?_
  refine kv_bipush dX6_init_29 (by decide) ?_
  refine kv_newi (N := 100) dX6_init_31 (by decide) rfl (by decide) (by decide) (by decide) (fun q4 => ?_)
  refine kv_putr (ty := .array .int) 3 dX6_init_33 rfl flX6_19 iwX6 tyX6_ok nmX6 (by decide) rfl rfl rfl (by decide +kernel) rfl rfl (Nat.le_of_ble_eq_true rfl) ?_
  refine kv_aload 0 dX6_init_36 rfl ?_
  refine kv_bipush dX6_init_37 (by decide) ?_
  refine kv_newi (N := 7) dX6_init_39 (by decide) rfl (by decide) (by decide) (by decide) (fun q5 => ?_)
  refine kv_putr (ty := .array .int) 4 dX6_init_41 rfl flX6_22 iwX6 tyX6_ok nmX6 (by decide) rfl rfl rfl (by decide +kernel) rfl rfl (Nat.le_of_ble_eq_true rfl) ?_
  refine kv_aload 0 dX6_init_44 rfl ?_
  refine kv_bipush dX6_init_45 (by decide) ?_
  refine kv_newi (N := 48) dX6_init_47 (by decide) rfl (by decide) (by decide) (by decide) (fun q6 => ?_)
  refine kv_putr (ty := .array .int) 7 dX6_init_49 rfl flX6_25 iwX6 tyX6_ok nmX6 (by decide) rfl rfl rfl (by decide +kernel) rfl rfl (Nat.le_of_ble_eq_true rfl) ?_
  refine kv_aload 0 dX6_init_52 rfl ?_
  refine kv_bipush dX6_init_53 (by decide) ?_
  refine kv_newi (N := 104) dX6_init_55 (by decide) rfl (by decide) (by decide) (by decide) (fun q7 => ?_)
  refine kv_putr (ty := .array .int) 8 dX6_init_57 rfl flX6_28 iwX6 tyX6_ok nmX6 (by decide) rfl rfl rfl (by decide +kernel) rfl rfl (Nat.le_of_ble_eq_true rfl) ?_
  refine kv_aload 0 dX6_init_60 rfl ?_
  refine kv_bipush dX6_init_61 (by decide) ?_
  refine kv_newi (N := 6) dX6_init_63 (by decide) rfl (by decide) (by decide) (by decide) (fun q8 => ?_)
  refine kv_putr (ty := .array .int) 9 dX6_init_65 rfl flX6_31 iwX6 tyX6_ok nmX6 (by decide) rfl rfl rfl (by decide +kernel) rfl rfl (Nat.le_of_ble_eq_true rfl) ?_
  refine kv_aload 0 dX6_init_68 rfl ?_
  refine kv_bipush dX6_init_69 (by decide) ?_
  refine kv_newi (N := 120) dX6_init_71 (by decide) rfl (by decide) (by decide) (by decide) (fun q9 => ?_)
  refine kv_putr (ty := .array .int) 10 dX6_init_73 rfl flX6_34 iwX6 tyX6_ok nmX6 (by decide) rfl rfl rfl (by decide +kernel) rfl rfl (Nat.le_of_ble_eq_true rfl) ?_
  refine kv_aload 0 dX6_init_76 rfl ?_
  refine kv_iconst dX6_init_77 ?_
  refine kv_newi (N := 4) dX6_init_78 (by decide) rfl (by decide) (by decide) (by decide) (fun q10 => ?_)
  refine kv_putr (ty := .array .int) 16 dX6_init_80 rfl flX6_37 iwX6 tyX6_ok nmX6 (by decide) rfl rfl rfl (by decide +kernel) rfl rfl (Nat.le_of_ble_eq_true rfl) ?_
  refine kv_aload 0 dX6_init_83 rfl ?_
  refine kv_iconst dX6_init_84 ?_
  refine kv_newi (N := 4) dX6_init_85 (by decide) rfl (by decide) (by decide) (by decide) (fun q11 => ?_)
  refine kv_putr (ty := .array .int) 17 dX6_init_87 rfl flX6_40 iwX6 tyX6_ok nmX6 (by decide) rfl rfl rfl (by decide +kernel) rfl rfl (Nat.le_of_ble_eq_true rfl) ?_
  refine kv_aload 0 dX6_init_90 rfl ?_
  refine kv_sipush dX6_init_91 (by decide) ?_
  refine kv_newl (N := 160) dX6_init_94 (by decide) rfl (by decide) (by decide) (by decide) (fun q12 => ?_)
  refine kv_putr (ty := .array .long) 18 dX6_init_96 rfl flX6_43 iwX6 tyX6_ok nmX6 (by decide) rfl rfl rfl (by decide +kernel) rfl rfl (Nat.le_of_ble_eq_true rfl) ?_
  refine kv_aload 0 dX6_init_99 rfl ?_
  refine kv_bipush dX6_init_100 (by decide) ?_
  refine kv_newl (N := 40) dX6_init_102 (by decide) rfl (by decide) (by decide) (by decide) (fun q13 => ?_)
  refine kv_putr (ty := .array .long) 19 dX6_init_104 rfl flX6_47 iwX6 tyX6_ok nmX6 (by decide) rfl rfl rfl (by decide +kernel) rfl rfl (Nat.le_of_ble_eq_true rfl) ?_
  refine kv_aload 0 dX6_init_107 rfl ?_
  refine kv_getr 0 dX6_init_108 rfl flX6_7 iwX6 (by decide) rfl ?_
  refine kv_iconst dX6_init_111 ?_
  refine kv_iconst dX6_init_112 ?_
  refine kv_iast 1 dX6_init_113 rfl (ev_in (z := 3) (by omega) (by omega)) ?_
  refine kv_iconst dX6_init_114 ?_
  refine kv_istore dX6_init_115 (by decide) rfl ?_
  have loop : ∀ (m k : Nat), k + m = 48 → Kv D cs nX6 13 893 116 [(1, .int (Int32.ofInt k)), (0, .ref h0)] [] [(h0, .inr (5, [.ref q1, .ref q2, .ref q3, .ref q4, .ref q5, .int (Int32.ofInt 0), .int (Int32.ofInt 0), .ref q6, .ref q7, .ref q8, .ref q9, .int (Int32.ofInt 0), .int (Int32.ofInt 0), .int (Int32.ofInt 0), .int (Int32.ofInt 0), .int (Int32.ofInt 0), .ref q10, .ref q11, .ref q12, .ref q13])), (q1, .inl (cs 0, 100, .inl (sfr k))), (q2, .inl (cs 0, 100, .inl (fun _ => Int32.ofInt 0))), (q3, .inl (cs 0, 100, .inl (fun _ => Int32.ofInt 0))), (q4, .inl (cs 0, 100, .inl (fun _ => Int32.ofInt 0))), (q5, .inl (cs 0, 7, .inl (fun _ => Int32.ofInt 0))), (q6, .inl (cs 0, 48, .inl (fun _ => Int32.ofInt 0))), (q7, .inl (cs 0, 104, .inl (fun _ => Int32.ofInt 0))), (q8, .inl (cs 0, 6, .inl (fun _ => Int32.ofInt 0))), (q9, .inl (cs 0, 120, .inl (fun _ => Int32.ofInt 0))), (q10, .inl (cs 0, 4, .inl (fun _ => Int32.ofInt 0))), (q11, .inl (cs 0, 4, .inl (fun _ => Int32.ofInt 0))), (q12, .inl (cs 1, 160, .inr (.inl (fun _ => Int64.ofInt 0)))), (q13, .inl (cs 1, 40, .inr (.inl (fun _ => Int64.ofInt 0))))] (kR nX6 (fun w => ∃ u : Nat → Nat, u 0 = h0 ∧ w = wX6 cs u)) := by
    intro m
    induction m with
    | zero =>
      intro k hk
      have e : k = 48 := by omega
      subst e
      refine kv_iload 0 dX6_init_116 rfl ?_
      refine kv_bipush dX6_init_117 (by decide) ?_
      refine kv_ge (tgt := 138) dX6_init_119 (by decide) (fun _ => ?_) (fun h => absurd (by decide) h)
      rw [sfr_48]
      exact kv_ret dX6_init_138 (by decide) (by decide) ⟨fun k => [h0, q1, q2, q3, q4, q5, q6, q7, q8, q9, q10, q11, q12, q13].getD k 0, rfl, rfl⟩
    | succ m ih =>
      intro k hk
      refine kv_iload 0 dX6_init_116 rfl ?_
      refine kv_bipush dX6_init_117 (by decide) ?_
      refine kv_ge (tgt := 138) dX6_init_119 (by decide) (fun h => ?_) (fun _ => ?_)
      · exfalso
        have h2 := (ev_le (x := 48) (y := k) (by omega) (by omega)).mp h
        omega
      · refine kv_aload 1 dX6_init_122 rfl ?_
        refine kv_getr 0 dX6_init_123 rfl flX6_7 iwX6 (by decide) rfl ?_
        refine kv_iconst dX6_init_126 ?_
        refine kv_iload 0 dX6_init_127 rfl ?_
        refine kv_iadd dX6_init_128 ?_
        rw [← Int32.ofInt_add]
        refine kv_bipush dX6_init_129 (by decide) ?_
        refine kv_iast 1 dX6_init_131 rfl (ev_in (by omega) (by omega)) ?_
        rw [ev_nn (by omega), show ((4 : Int) + (k : Int)).toNat = 4 + k by omega, sfr_s]
        refine kv_iinc (k := 0) (v := Int32.ofInt ((k + 1 : Nat) : Int)) dX6_init_132 rfl (by rw [← Int32.ofInt_add]; rfl) (by decide) rfl ?_
        refine kv_goto (tgt := 116) dX6_init_135 (by decide) ?_
        exact ih (k + 1) (by omega)
  have l := loop 48 0 (by omega)
  rw [← sfr_0] at l
  exact l
