/-! the class's plain -/
theorem nn_ex {x : Int} (h : 0 ≤ x) : ∃ n : Nat, x = (n : Int) ∧ x.toNat = n := ⟨x.toNat, by omega, rfl⟩
theorem c_X2_countsFor {b : ev_B} {σ : ev_M} {p : Nat} {l : Int} (hp : isP p) (H : okP (wn σ p)) (hl : 0 ≤ l ∧ l < σ p 8) : CF b mX2_countsFor [vR p, vI l] σ (some (vI (cnt (wn σ p) l))) σ := by
  refine ev_enter okX2_countsFor.1 (Nat.le_of_ble_eq_true rfl) ?_
  have h0 := ok0 H
  have h1 := okl H hl
  have h2 := oks H h1.2.1
  refine ev_aload_n dX2_countsFor_0 rfl ?_
  refine ev_getr 10 dX2_countsFor_1 (pk0 hp) rfl flX2_34 iwX2 (by decide) rfl ?_
  refine ev_iload_n dX2_countsFor_4 rfl ?_
  refine ev_iald dX2_countsFor_5 (pk7 hp) (by omega) ?_
  refine ev_istore_n dX2_countsFor_6 (by decide) rfl ?_
  refine ev_aload_n dX2_countsFor_7 rfl ?_
  refine ev_getr 4 dX2_countsFor_8 (pk0 hp) rfl flX2_19 iwX2 (by decide) rfl ?_
  refine ev_iload_n dX2_countsFor_11 rfl ?_
  refine ev_iald dX2_countsFor_12 (pk2 hp) (by omega) ?_
  refine ev_aload_n dX2_countsFor_13 rfl ?_
  refine ev_getr 5 dX2_countsFor_14 (pk0 hp) rfl flX2_22 iwX2 (by decide) rfl ?_
  refine ev_iload_n dX2_countsFor_17 rfl ?_
  refine ev_iald dX2_countsFor_18 (pk3 hp) (by omega) ?_
  refine ev_aload_n dX2_countsFor_19 rfl ?_
  refine ev_getr 11 dX2_countsFor_20 (pk0 hp) rfl flX2_37 iwX2 (by decide) rfl ?_
  refine ev_iload_n dX2_countsFor_23 rfl ?_
  refine ev_iald dX2_countsFor_24 (pk8 hp) (by omega) ?_
  refine ev_S1 (c_X1_fade (by omega) (by omega) (by omega)) okX1_fade dX2_countsFor_25 mlX2_80 ⟨by decide, by decide⟩ rfl (Nat.le_of_ble_eq_true rfl) ?_
  refine ev_iret dX2_countsFor_28 rfl rfl ?_
  exact ⟨rfl, rfl⟩
theorem cnt_bd {σ : ev_M} {p : Nat} {l : Int} (H : okP (wn σ p)) (hl : 0 ≤ l ∧ l < σ p 8) : -15 ≤ cnt (wn σ p) l ∧ cnt (wn σ p) l ≤ 35 :=
  sp_fade_bd (oks H (okl H hl).2.1).2.1 (okl H hl).2.2.1
theorem c_X2_scareOf {b : ev_B} {σ : ev_M} {p : Nat} {l d : Int} (hp : isP p) (H : okP (wn σ p)) (hl : 0 ≤ l ∧ l < σ p 8) (hd : 0 ≤ d ∧ d ≤ 12) : CF b mX2_scareOf [vR p, vI l, vI d] σ (some (vI (scr (wn σ p) l d))) σ := by
  refine ev_enter okX2_scareOf.1 (Nat.le_of_ble_eq_true rfl) ?_
  have h0 := ok0 H
  have h1 := okl H hl
  have h2 := oks H h1.2.1
  have h3 := cnt_bd H hl
  refine ev_aload_n dX2_scareOf_0 rfl ?_
  refine ev_getr 10 dX2_scareOf_1 (pk0 hp) rfl flX2_34 iwX2 (by decide) rfl ?_
  refine ev_iload_n dX2_scareOf_4 rfl ?_
  refine ev_iald dX2_scareOf_5 (pk7 hp) (by omega) ?_
  refine ev_istore_n dX2_scareOf_6 (by decide) rfl ?_
  refine ev_aload_n dX2_scareOf_7 rfl ?_
  refine ev_getr 4 dX2_scareOf_8 (pk0 hp) rfl flX2_19 iwX2 (by decide) rfl ?_
  refine ev_iload_n dX2_scareOf_11 rfl ?_
  refine ev_iald dX2_scareOf_12 (pk2 hp) (by omega) ?_
  refine ev_aload_n dX2_scareOf_13 rfl ?_
  refine ev_iload_n dX2_scareOf_14 rfl ?_
  refine ev_V1 (c_X2_countsFor hp H hl) okX2_countsFor dX2_scareOf_15 mlX2_86 (pk0 hp) rfl ⟨by decide, by decide⟩ rfl (Nat.le_of_ble_eq_true rfl) ?_
  refine ev_iload_n dX2_scareOf_18 rfl ?_
  refine ev_S1 (c_X1_scare (by omega) (by omega) (by omega)) okX1_scare dX2_scareOf_19 mlX2_89 ⟨by decide, by decide⟩ rfl (Nat.le_of_ble_eq_true rfl) ?_
  refine ev_iret dX2_scareOf_22 rfl rfl ?_
  exact ⟨rfl, rfl⟩
theorem c_X2_allLikenesses {b : ev_B} {σ : ev_M} {p : Nat} (hp : isP p) (H : okP (wn σ p)) : CF b mX2_allLikenesses [vR p] σ (some (vI (pw (σ p 8) - 1))) σ := by
  refine ev_enter okX2_allLikenesses.1 (Nat.le_of_ble_eq_true rfl) ?_
  have h0 := ok0 H
  refine ev_iconst dX2_allLikenesses_0 ?_
  refine ev_aload_n dX2_allLikenesses_1 rfl ?_
  refine ev_geti 8 8 dX2_allLikenesses_2 (pk0 hp) rfl flX2_58 iwX2 (by decide) rfl rfl ?_
  refine ev_ishl dX2_allLikenesses_5 (bt_shl (by omega)) ?_
  refine ev_iconst dX2_allLikenesses_6 ?_
  refine ev_isub dX2_allLikenesses_7 ?_
  refine ev_iret dX2_allLikenesses_8 rfl rfl ?_
  exact ⟨rfl, rfl⟩
theorem c_X2_wheatOfAll {b : ev_B} {σ : ev_M} {p : Nat} (hp : isP p) : CF b mX2_wheatOfAll [vR p] σ (some (vI (sm (σ (p + 1)) 48))) σ := by
  refine ev_enter okX2_wheatOfAll.1 (Nat.le_of_ble_eq_true rfl) ?_
  refine ev_aload_n dX2_wheatOfAll_0 rfl ?_
  refine ev_getr 0 dX2_wheatOfAll_1 (pk0 hp) rfl flX2_9 iwX2 (by decide) rfl ?_
  refine ev_bipush dX2_wheatOfAll_4 (by decide) ?_
  refine ev_SN1 (c_X5_sumOf (N := 48) (pk1 hp) (by decide)) okX5_sumOf dX2_wheatOfAll_6 nlX2_76 ⟨by decide, by decide⟩ rfl (Nat.le_of_ble_eq_true rfl) ?_
  refine ev_iret dX2_wheatOfAll_9 rfl rfl ?_
  exact ⟨rfl, rfl⟩
theorem c_X2_temperOfAll {b : ev_B} {σ : ev_M} {p : Nat} (hp : isP p) (H : okP (wn σ p)) : CF b mX2_temperOfAll [vR p] σ (some (vI (sm (σ (p + 3)) (σ p 3).toNat))) σ := by
  refine ev_enter okX2_temperOfAll.1 (Nat.le_of_ble_eq_true rfl) ?_
  have h0 := ok0 H
  obtain ⟨n, hn, hn2⟩ := nn_ex h0.2.2.1.1
  rw [hn2]
  refine ev_aload_n dX2_temperOfAll_0 rfl ?_
  refine ev_getr 5 dX2_temperOfAll_1 (pk0 hp) rfl flX2_22 iwX2 (by decide) rfl ?_
  refine ev_aload_n dX2_temperOfAll_4 rfl ?_
  refine ev_geti 3 3 dX2_temperOfAll_5 (pk0 hp) rfl flX2_55 iwX2 (by decide) rfl rfl ?_
  rw [hn]
  refine ev_SN1 (c_X5_sumOf (N := n) (pk3 hp) (by omega)) okX5_sumOf dX2_temperOfAll_8 nlX2_76 ⟨by decide, by decide⟩ rfl (Nat.le_of_ble_eq_true rfl) ?_
  refine ev_iret dX2_temperOfAll_11 rfl rfl ?_
  exact ⟨rfl, rfl⟩
theorem c_X2_placesOf {b : ev_B} {σ : ev_M} {p r : Nat} {v : Int} (hp : isP p) (H : okP (wn σ p)) (hr : ev_kds[r]? = some (.inr (0, 8))) (hv : (-2147483648 ≤ v ∧ v < 2147483648)) (hx : ∀ l : Int, 0 ≤ l ∧ l < σ p 8 → -1000 ≤ σ r l ∧ σ r l ≤ 1000) : CF b mX2_placesOf [vR p, vI v, vR r] σ (some (vI (stf (fun l => decide (σ r l = v)) (σ p 8).toNat))) σ := by
  refine ev_enter okX2_placesOf.1 (Nat.le_of_ble_eq_true rfl) ?_
  have h0 := ok0 H
  obtain ⟨n, hn, hn2⟩ := nn_ex h0.2.2.2.1
  rw [hn2]
  have loop : ∀ (m i : Nat), i + m = n → Ev b mX2_placesOf 5 [(0, vR p), (1, vI v), (2, vR r), (3, vI (stf (fun l => decide (σ r l = v)) i)), (4, vI i)] [] σ (fun r' τ' => r' = some (vI (stf (fun l => decide (σ r l = v)) n)) ∧ τ' = σ) := by
    intro m
    induction m with
    | zero =>
      intro i h
      refine ev_iload dX2_placesOf_5 rfl ?_
      refine ev_aload_n dX2_placesOf_7 rfl ?_
      refine ev_geti 8 8 dX2_placesOf_8 (pk0 hp) rfl flX2_58 iwX2 (by decide) rfl rfl ?_
      refine ev_icmp_ge (tgt := 35) dX2_placesOf_11 (by decide) (by omega) (by omega) (fun c11 => ?_) (fun c11 => ?_)
      · refine ev_iload_n dX2_placesOf_35 rfl ?_
        refine ev_iret dX2_placesOf_36 rfl rfl ?_
        have e : i = n := by omega
        subst e
        exact ⟨rfl, rfl⟩
      · exact absurd c11 (by omega)
    | succ m ih =>
      intro i h
      have hx1 := hx i (by omega)
      have hb := stf_bd (fun l => decide (σ r l = v)) i
      have hb2 := pw_bd i (by omega)
      refine ev_iload dX2_placesOf_5 rfl ?_
      refine ev_aload_n dX2_placesOf_7 rfl ?_
      refine ev_geti 8 8 dX2_placesOf_8 (pk0 hp) rfl flX2_58 iwX2 (by decide) rfl rfl ?_
      refine ev_icmp_ge (tgt := 35) dX2_placesOf_11 (by decide) (by omega) (by omega) (fun c11 => ?_) (fun c11 => ?_)
      · exact absurd c11 (by omega)
      · refine ev_aload_n dX2_placesOf_14 rfl ?_
        refine ev_iload dX2_placesOf_15 rfl ?_
        refine ev_iald dX2_placesOf_17 hr (by omega) ?_
        refine ev_iload_n dX2_placesOf_18 rfl ?_
        refine ev_icmp_ne (tgt := 29) dX2_placesOf_19 (by decide) (by omega) (by omega) (fun c19 => ?_) (fun c19 => ?_)
        · refine ev_iinc dX2_placesOf_29 rfl (by decide) rfl ?_
          refine ev_goto (tgt := 5) dX2_placesOf_32 (by decide) ?_
          have e : stf (fun l => decide (σ r l = v)) i = stf (fun l => decide (σ r l = v)) (i + 1) := by
            show _ = sm _ i + _
            simp only [decide_eq_true_eq]
            rw [if_neg c19]
            simp [stf]
          rw [e]
          exact ih (i + 1) (by omega)
        · refine ev_iload_n dX2_placesOf_22 rfl ?_
          refine ev_iconst dX2_placesOf_23 ?_
          refine ev_iload dX2_placesOf_24 rfl ?_
          refine ev_ishl dX2_placesOf_26 (bt_shl (by omega)) ?_
          refine ev_ior dX2_placesOf_27 (bt_or (by omega) (by omega)) ?_
          refine ev_istore_n dX2_placesOf_28 (by decide) rfl ?_
          refine ev_iinc dX2_placesOf_29 rfl (by decide) rfl ?_
          refine ev_goto (tgt := 5) dX2_placesOf_32 (by decide) ?_
          have e : stf (fun l => decide (σ r l = v)) i + pw i = stf (fun l => decide (σ r l = v)) (i + 1) := by
            show _ = sm _ i + _
            simp only [decide_eq_true_eq]
            rw [if_pos c19]
            simp [stf]
          rw [e]
          exact ih (i + 1) (by omega)
  refine ev_iconst dX2_placesOf_0 ?_
  refine ev_istore_n dX2_placesOf_1 (by decide) rfl ?_
  refine ev_iconst dX2_placesOf_2 ?_
  refine ev_istore dX2_placesOf_3 (by decide) rfl ?_
  exact loop n 0 (by omega)
theorem c_X2_likenessesAt {b : ev_B} {σ : ev_M} {p : Nat} {v : Int} (hp : isP p) (H : okP (wn σ p)) (hv : (-2147483648 ≤ v ∧ v < 2147483648)) : CF b mX2_likenessesAt [vR p, vI v] σ (some (vI (stf (fun l => decide (σ (p + 6) l = v)) (σ p 8).toNat))) σ := by
  refine ev_enter okX2_likenessesAt.1 (Nat.le_of_ble_eq_true rfl) ?_
  refine ev_aload_n dX2_likenessesAt_0 rfl ?_
  refine ev_iload_n dX2_likenessesAt_1 rfl ?_
  refine ev_aload_n dX2_likenessesAt_2 rfl ?_
  refine ev_getr 9 dX2_likenessesAt_3 (pk0 hp) rfl flX2_31 iwX2 (by decide) rfl ?_
  refine ev_V1 (c_X2_placesOf hp H (pk6 hp) hv (fun l hl => by have := okl H hl; omega)) okX2_placesOf dX2_likenessesAt_6 mlX2_61 (pk0 hp) rfl ⟨by decide, by decide⟩ rfl (Nat.le_of_ble_eq_true rfl) ?_
  refine ev_iret dX2_likenessesAt_9 rfl rfl ?_
  exact ⟨rfl, rfl⟩
theorem c_X2_likenessesOf {b : ev_B} {σ : ev_M} {p : Nat} {v : Int} (hp : isP p) (H : okP (wn σ p)) (hv : (-2147483648 ≤ v ∧ v < 2147483648)) : CF b mX2_likenessesOf [vR p, vI v] σ (some (vI (stf (fun l => decide (σ (p + 7) l = v)) (σ p 8).toNat))) σ := by
  refine ev_enter okX2_likenessesOf.1 (Nat.le_of_ble_eq_true rfl) ?_
  have h0 := ok0 H
  refine ev_aload_n dX2_likenessesOf_0 rfl ?_
  refine ev_iload_n dX2_likenessesOf_1 rfl ?_
  refine ev_aload_n dX2_likenessesOf_2 rfl ?_
  refine ev_getr 10 dX2_likenessesOf_3 (pk0 hp) rfl flX2_34 iwX2 (by decide) rfl ?_
  refine ev_V1 (c_X2_placesOf hp H (pk7 hp) hv (fun l hl => by have := okl H hl; omega)) okX2_placesOf dX2_likenessesOf_6 mlX2_61 (pk0 hp) rfl ⟨by decide, by decide⟩ rfl (Nat.le_of_ble_eq_true rfl) ?_
  refine ev_iret dX2_likenessesOf_9 rfl rfl ?_
  exact ⟨rfl, rfl⟩
theorem c_X2_isMeeting {b : ev_B} {σ : ev_M} {p : Nat} {a o : Int} (hp : isP p) (H : okP (wn σ p)) (ha : 0 ≤ a ∧ a < σ p 8) (ho : 0 ≤ o ∧ o < σ p 8) : CF b mX2_isMeeting [vR p, vI a, vI o] σ (some (vI (if σ (p + 6) a / 8 = σ (p + 6) o / 8 ∨ σ (p + 6) a % 8 = σ (p + 6) o % 8 then 1 else 0))) σ := by
  refine ev_enter okX2_isMeeting.1 (Nat.le_of_ble_eq_true rfl) ?_
  have h0 := ok0 H
  have h1 := okl H ha
  have h2 := okl H ho
  refine ev_aload_n dX2_isMeeting_0 rfl ?_
  refine ev_getr 9 dX2_isMeeting_1 (pk0 hp) rfl flX2_31 iwX2 (by decide) rfl ?_
  refine ev_iload_n dX2_isMeeting_4 rfl ?_
  refine ev_iald dX2_isMeeting_5 (pk6 hp) (by omega) ?_
  refine ev_bipush dX2_isMeeting_6 (by decide) ?_
  refine ev_idiv dX2_isMeeting_8 (by omega) (by omega) ?_
  refine ev_aload_n dX2_isMeeting_9 rfl ?_
  refine ev_getr 9 dX2_isMeeting_10 (pk0 hp) rfl flX2_31 iwX2 (by decide) rfl ?_
  refine ev_iload_n dX2_isMeeting_13 rfl ?_
  refine ev_iald dX2_isMeeting_14 (pk6 hp) (by omega) ?_
  refine ev_bipush dX2_isMeeting_15 (by decide) ?_
  refine ev_idiv dX2_isMeeting_17 (by omega) (by omega) ?_
  refine ev_icmp_eq (tgt := 42) dX2_isMeeting_18 (by decide) (by omega) (by omega) (fun c18 => ?_) (fun c18 => ?_)
  · refine ev_iconst dX2_isMeeting_42 ?_
    refine ev_goto (tgt := 47) dX2_isMeeting_43 (by decide) ?_
    refine ev_iret dX2_isMeeting_47 rfl (by first | rfl | exact ev_nb) ?_
    exact ⟨by first | rw [if_pos (by omega)] | rw [if_neg (by omega)], rfl⟩
  · refine ev_aload_n dX2_isMeeting_21 rfl ?_
    refine ev_getr 9 dX2_isMeeting_22 (pk0 hp) rfl flX2_31 iwX2 (by decide) rfl ?_
    refine ev_iload_n dX2_isMeeting_25 rfl ?_
    refine ev_iald dX2_isMeeting_26 (pk6 hp) (by omega) ?_
    refine ev_bipush dX2_isMeeting_27 (by decide) ?_
    refine ev_irem dX2_isMeeting_29 (by omega) (by omega) ?_
    refine ev_aload_n dX2_isMeeting_30 rfl ?_
    refine ev_getr 9 dX2_isMeeting_31 (pk0 hp) rfl flX2_31 iwX2 (by decide) rfl ?_
    refine ev_iload_n dX2_isMeeting_34 rfl ?_
    refine ev_iald dX2_isMeeting_35 (pk6 hp) (by omega) ?_
    refine ev_bipush dX2_isMeeting_36 (by decide) ?_
    refine ev_irem dX2_isMeeting_38 (by omega) (by omega) ?_
    refine ev_icmp_ne (tgt := 46) dX2_isMeeting_39 (by decide) (by omega) (by omega) (fun c39 => ?_) (fun c39 => ?_)
    · refine ev_iconst dX2_isMeeting_46 ?_
      refine ev_iret dX2_isMeeting_47 rfl (by first | rfl | exact ev_nb) ?_
      exact ⟨by first | rw [if_pos (by omega)] | rw [if_neg (by omega)], rfl⟩
    · refine ev_iconst dX2_isMeeting_42 ?_
      refine ev_goto (tgt := 47) dX2_isMeeting_43 (by decide) ?_
      refine ev_iret dX2_isMeeting_47 rfl (by first | rfl | exact ev_nb) ?_
      exact ⟨by first | rw [if_pos (by omega)] | rw [if_neg (by omega)], rfl⟩
/-- pairs one after the other, the lesser first -/
def mtc (g : Int → Int → Int) (n : Nat) (i : Nat) : Int := sm (fun a => sm (fun o => g a (a + 1 + o)) (n - 1 - a.toNat)) i
theorem sm_add (f g : Int → Int) : ∀ n : Nat, sm (fun i => f i + g i) n = sm f n + sm g n
  | 0 => rfl
  | n + 1 => by
    have := sm_add f g n
    unfold sm
    omega
theorem mtc_eq {g : Int → Int → Int} (hg : ∀ a o, g a o = g o a) : ∀ n : Nat, mtc g n n = sm (fun l => sm (fun o => g l o) l.toNat) n
  | 0 => rfl
  | n + 1 => by
    have ih := mtc_eq hg n
    have e1 : mtc g (n + 1) (n + 1) = sm (fun a => sm (fun o => g a (a + 1 + o)) (n - 1 - a.toNat) + g a n) n := by
      unfold mtc
      rw [sm]
      have z : n + 1 - 1 - ((n : Nat) : Int).toNat = 0 := by omega
      rw [z]
      simp only [sm]
      rw [Int.add_zero]
      apply sm_congr
      intro i hi
      have z2 : n + 1 - 1 - ((i : Nat) : Int).toNat = (n - 1 - ((i : Nat) : Int).toNat) + 1 := by omega
      rw [z2, sm]
      congr 2
      omega
    rw [e1, sm_add]
    unfold mtc at ih
    rw [ih]
    show _ = sm _ n + sm _ ((n : Nat) : Int).toNat
    congr 1
    rw [show ((n : Nat) : Int).toNat = n by omega]
    apply sm_congr
    intro i _
    exact hg _ _
theorem c_X2_meetings {b : ev_B} {σ : ev_M} {p : Nat} {k : Int} (hp : isP p) (H : okP (wn σ p)) (hk : (-2147483648 ≤ k ∧ k < 2147483648)) : CF b mX2_meetings [vR p, vI k] σ (some (vI (mts (wn σ p) allp k (σ p 8).toNat))) σ := by
  refine ev_enter okX2_meetings.1 (Nat.le_of_ble_eq_true rfl) ?_
  have h0 := ok0 H
  obtain ⟨n, hn, hn2⟩ := nn_ex h0.2.2.2.1
  rw [hn2]
  have e0 : mts (wn σ p) allp k n = mtc (mpr (wn σ p) allp k) n n := (mtc_eq (mpr_comm _ _ _) n).symm
  rw [e0]
  have inner : ∀ (Q : Option ev_V → ev_M → Prop) (i : Nat) (s : Int), i < n → (Ev b mX2_meetings 66 [(0, vR p), (1, vI k), (2, vI (s + sm (fun o => mpr (wn σ p) allp k i (i + 1 + o)) (n - 1 - i))), (3, vI i), (4, vI n)] [] σ Q) → ∀ (m j : Nat), i + 1 + j + m = n → Ev b mX2_meetings 17 [(0, vR p), (1, vI k), (2, vI (s + sm (fun o => mpr (wn σ p) allp k i (i + 1 + o)) j)), (3, vI i), (4, vI ((i : Int) + 1 + j))] [] σ Q := by
    intro Q i s hi K m
    have ho1 := okl H (l := i) (by omega)
    induction m with
    | zero =>
      intro j h
      refine ev_iload dX2_meetings_17 rfl ?_
      refine ev_aload_n dX2_meetings_19 rfl ?_
      refine ev_geti 8 8 dX2_meetings_20 (pk0 hp) rfl flX2_58 iwX2 (by decide) rfl rfl ?_
      refine ev_icmp_ge (tgt := 66) dX2_meetings_23 (by decide) (by omega) (by omega) (fun c23 => ?_) (fun c23 => ?_)
      · have e : j = n - 1 - i := by omega
        subst e
        have e2 : (i : Int) + 1 + ((n - 1 - i : Nat) : Int) = n := by omega
        rw [e2]
        exact K
      · exact absurd c23 (by omega)
    | succ m ih =>
      intro j h
      have ho2 := okl H (l := (i : Int) + 1 + j) (by omega)
      have nx : ∀ v : Int, v = mpr (wn σ p) allp k i (i + 1 + j) → Ev b mX2_meetings 60 [(0, vR p), (1, vI k), (2, vI (s + sm (fun o => mpr (wn σ p) allp k i (i + 1 + o)) j + v)), (3, vI i), (4, vI ((i : Int) + 1 + j))] [] σ Q := by
        intro v hv
        refine ev_iinc dX2_meetings_60 rfl (by decide) rfl ?_
        refine ev_goto (tgt := 17) dX2_meetings_63 (by decide) ?_
        have e1 : s + sm (fun o => mpr (wn σ p) allp k i (i + 1 + o)) j + v = s + sm (fun o => mpr (wn σ p) allp k i (i + 1 + o)) (j + 1) := by
          rw [sm, hv]; omega
        have e2 : (i : Int) + 1 + j + 1 = (i : Int) + 1 + ((j + 1 : Nat) : Int) := by omega
        rw [e1, e2]
        exact ih (j + 1) (by omega)
      have no : ¬ (σ (p + 7) i = k ∧ σ (p + 7) ((i : Int) + 1 + j) = k ∧ (σ (p + 6) i / 8 = σ (p + 6) ((i : Int) + 1 + j) / 8 ∨ σ (p + 6) i % 8 = σ (p + 6) ((i : Int) + 1 + j) % 8)) → Ev b mX2_meetings 60 [(0, vR p), (1, vI k), (2, vI (s + sm (fun o => mpr (wn σ p) allp k i (i + 1 + o)) j)), (3, vI i), (4, vI ((i : Int) + 1 + j))] [] σ Q := by
        intro hno
        have e := nx 0 (by unfold mpr; rw [if_neg (fun q => hno ⟨q.1, q.2.1, q.2.2.1⟩)])
        rw [Int.add_zero] at e
        exact e
      refine ev_iload dX2_meetings_17 rfl ?_
      refine ev_aload_n dX2_meetings_19 rfl ?_
      refine ev_geti 8 8 dX2_meetings_20 (pk0 hp) rfl flX2_58 iwX2 (by decide) rfl rfl ?_
      refine ev_icmp_ge (tgt := 66) dX2_meetings_23 (by decide) (by omega) (by omega) (fun c23 => ?_) (fun c23 => ?_)
      · exact absurd c23 (by omega)
      · refine ev_aload_n dX2_meetings_26 rfl ?_
        refine ev_getr 10 dX2_meetings_27 (pk0 hp) rfl flX2_34 iwX2 (by decide) rfl ?_
        refine ev_iload_n dX2_meetings_30 rfl ?_
        refine ev_iald dX2_meetings_31 (pk7 hp) (by omega) ?_
        refine ev_iload_n dX2_meetings_32 rfl ?_
        refine ev_icmp_ne (tgt := 60) dX2_meetings_33 (by decide) (by omega) (by omega) (fun c33 => ?_) (fun c33 => ?_)
        · exact no (fun q => c33 q.1)
        · refine ev_aload_n dX2_meetings_36 rfl ?_
          refine ev_getr 10 dX2_meetings_37 (pk0 hp) rfl flX2_34 iwX2 (by decide) rfl ?_
          refine ev_iload dX2_meetings_40 rfl ?_
          refine ev_iald dX2_meetings_42 (pk7 hp) (by omega) ?_
          refine ev_iload_n dX2_meetings_43 rfl ?_
          refine ev_icmp_ne (tgt := 60) dX2_meetings_44 (by decide) (by omega) (by omega) (fun c44 => ?_) (fun c44 => ?_)
          · exact no (fun q => c44 q.2.1)
          · refine ev_aload_n dX2_meetings_47 rfl ?_
            refine ev_iload_n dX2_meetings_48 rfl ?_
            refine ev_iload dX2_meetings_49 rfl ?_
            refine ev_Vbeq (tgt := 60) (c_X2_isMeeting hp H (by omega) (by omega)) okX2_isMeeting dX2_meetings_51 mlX2_65 (pk0 hp) rfl ⟨by decide, by decide⟩ rfl (Nat.le_of_ble_eq_true rfl) dX2_meetings_54 (by decide) (fun c51 => ?_) (fun c51 => ?_)
            · exact no (fun q => c51 q.2.2)
            · refine ev_iinc dX2_meetings_57 rfl (by decide) rfl ?_
              exact nx 1 (by unfold mpr; rw [if_pos ⟨c33, c44, c51, rfl, rfl⟩])
  have outer : ∀ (m i : Nat) (z : Int), i + m = n → ∀ ls : List (Nat × ev_V), ev_lk ls 0 = some (vR p) → ev_lk ls 1 = some (vI k) → ev_lk ls 2 = some (vI (mtc (mpr (wn σ p) allp k) n i)) → ev_lk ls 3 = some (vI i) → Ev b mX2_meetings 4 ls [] σ (fun r' τ' => r' = some (vI (mtc (mpr (wn σ p) allp k) n n)) ∧ τ' = σ) := by
    intro m
    induction m with
    | zero =>
      intro i z h ls l0 l1 l2 l3
      refine Ev.lsub (ls' := [(0, vR p), (1, vI k), (2, vI (mtc (mpr (wn σ p) allp k) n i)), (3, vI i)]) (by simp [l0, l1, l2, l3]) ?_
      refine ev_iload_n dX2_meetings_4 rfl ?_
      refine ev_aload_n dX2_meetings_5 rfl ?_
      refine ev_geti 8 8 dX2_meetings_6 (pk0 hp) rfl flX2_58 iwX2 (by decide) rfl rfl ?_
      refine ev_icmp_ge (tgt := 72) dX2_meetings_9 (by decide) (by omega) (by omega) (fun c9 => ?_) (fun c9 => ?_)
      · refine ev_iload_n dX2_meetings_72 rfl ?_
        refine ev_iret dX2_meetings_73 rfl rfl ?_
        have e : i = n := by omega
        subst e
        exact ⟨rfl, rfl⟩
      · exact absurd c9 (by omega)
    | succ m ih =>
      intro i z h ls l0 l1 l2 l3
      refine Ev.lsub (ls' := [(0, vR p), (1, vI k), (2, vI (mtc (mpr (wn σ p) allp k) n i)), (3, vI i)]) (by simp [l0, l1, l2, l3]) ?_
      refine ev_iload_n dX2_meetings_4 rfl ?_
      refine ev_aload_n dX2_meetings_5 rfl ?_
      refine ev_geti 8 8 dX2_meetings_6 (pk0 hp) rfl flX2_58 iwX2 (by decide) rfl rfl ?_
      refine ev_icmp_ge (tgt := 72) dX2_meetings_9 (by decide) (by omega) (by omega) (fun c9 => ?_) (fun c9 => ?_)
      · exact absurd c9 (by omega)
      · refine ev_iload_n dX2_meetings_12 rfl ?_
        refine ev_iconst dX2_meetings_13 ?_
        refine ev_iadd dX2_meetings_14 ?_
        refine ev_istore dX2_meetings_15 (by decide) rfl ?_
        have e := inner (fun r' τ' => r' = some (vI (mtc (mpr (wn σ p) allp k) n n)) ∧ τ' = σ) i (mtc (mpr (wn σ p) allp k) n i) (by omega) ?_ (n - 1 - i) 0 (by omega)
        · rw [sm, Int.add_zero] at e
          simp only [Int.natCast_zero, Int.add_zero] at e
          exact e
        · refine ev_iinc dX2_meetings_66 rfl (by decide) rfl ?_
          refine ev_goto (tgt := 4) dX2_meetings_69 (by decide) ?_
          refine ih (i + 1) 0 (by omega) _ rfl rfl ?_ rfl
          show some (vI _) = some (vI (mtc (mpr (wn σ p) allp k) n (i + 1)))
          unfold mtc
          rw [sm, show ((i : Nat) : Int).toNat = i by omega]
  refine ev_iconst dX2_meetings_0 ?_
  refine ev_istore_n dX2_meetings_1 (by decide) rfl ?_
  refine ev_iconst dX2_meetings_2 ?_
  refine ev_istore_n dX2_meetings_3 (by decide) rfl ?_
  exact outer n 0 0 (by omega) _ rfl rfl rfl rfl
