/-! the model's numbers -/
def nv (B : Int → Int) (a : Int) : Nat → Int
  | 0 => 0
  | n + 1 => if 999 < nv B a n then nv B a n else 10 * nv B a n + B (a + n) - 48
theorem nv_nm {B : Int → Int} {a : Int} : ∀ n : Nat, (∀ k : Nat, k < n → 48 ≤ B (a + k) ∧ B (a + k) ≤ 57) → (0 ≤ nv B a n ∧ nv B a n ≤ 9999) ∧ ((nv B a n ≤ 999 ∧ nmN B a n = nv B a n) ∨ (999 < nv B a n ∧ nmN B a n = 1000))
  | 0, _ => by simp [nv, nmN]
  | n + 1, h => by
    have ih := nv_nm (B := B) (a := a) n (fun k hk => h k (by omega))
    have hn := h n (by omega)
    unfold nv nmN
    split <;> omega
theorem tk2 {B : Int → Int} {L s : Int} : (tkAt B L s).1 = 2 ↔ isDg (bAt B L s) = true := by
  unfold tkAt bAt
  by_cases z : L ≤ s
  · rw [if_pos z, if_neg (show ¬ s < L by omega)]
    exact ⟨fun h => by simp at h, fun h => absurd h (by decide)⟩
  · rw [if_neg z, if_pos (show s < L by omega)]
    by_cases z1 : isLt (B s) = true
    · rw [if_pos z1]
      refine ⟨fun h => by simp at h, fun h => ?_⟩
      unfold isLt at z1
      unfold isDg at h
      rw [decide_eq_true_eq] at z1 h
      omega
    · rw [if_neg z1]
      by_cases z2 : isDg (B s) = true
      · rw [if_pos z2]; exact ⟨fun _ => z2, fun _ => rfl⟩
      · rw [if_neg z2]
        refine ⟨fun h => ?_, fun h => absurd h z2⟩
        split at h
        · simp at h
        · simp at h
theorem LR_dg {σ : ev_M} {t : Tk} (h : LR σ t) (h2 : t.1 = 2) : ∀ k : Nat, k < (t.2.2 - t.2.1).toNat → 48 ≤ σ 55 (t.2.1 + k) ∧ σ 55 (t.2.1 + k) ≤ 57 := by
  obtain ⟨h1, _, h3, h4, h5, h6⟩ := h
  intro k hk
  have z2 := h2
  rw [h5] at z2
  have e2 : t.2.2 = (tkAt (σ 55) (σ 46 11) t.2.1).2.2 := by rw [← h5]
  have il := tk2.mp z2
  unfold bAt at il
  by_cases y : t.2.1 < σ 46 11
  · rw [if_pos y] at il
    have nl : ¬ isLt (σ 55 t.2.1) = true := fun q => by
      unfold isLt at q
      unfold isDg at il
      rw [decide_eq_true_eq] at q il
      omega
    have e3 : (tkAt (σ 55) (σ 46 11) t.2.1).2.2 = run isDg (σ 55) (σ 46 11) t.2.1 := by
      unfold tkAt; rw [if_neg (by omega), if_neg nl, if_pos il]
    have r := (run_bd (f := isDg) (B := σ 55) (L := σ 46 11) (p := t.2.1) (by omega)).2.2 (t.2.1 + k) (by omega)
    unfold isDg at r
    rw [decide_eq_true_eq] at r
    exact r
  · rw [if_neg y] at il; exact absurd il (by decide)
theorem LR_m {σ : ev_M} {t : Tk} {v : Int} (h : LR σ t) : LR (mup σ 46 14 v) t := by
  obtain ⟨h1, h2, h3, h4, h5, h6⟩ := h
  have e : ∀ i : Int, i ≠ 14 → mup σ 46 14 v 46 i = σ 46 i := fun i hi => mup_off hi
  refine ⟨okTR_fr (frM_m (by omega)) h1, ?_, ?_, ?_, ?_, ?_⟩
  · rw [e 15 (by decide)]; exact h2
  · rw [e 12 (by decide)]; exact h3
  · rw [e 13 (by decide)]; exact h4
  · rw [e 11 (by decide), mup_ne (by decide)]; exact h5
  · rw [e 11 (by decide)]; exact h6
theorem c_num {b : ev_B} {σ : ev_M} {t : Tk} {lo hi : Int} (h : LR σ t) (h1 : (-2147483648 ≤ lo ∧ lo < 2147483648)) (h2 : (-2147483648 ≤ hi ∧ hi < 2147483648)) (hh : hi ≤ 999) : Cl b mX6_number [vR 46, vI lo, vI hi] σ (fun r τ => r = none ∧ frM σ τ ∧ (isNm (σ 55) t lo hi → LR τ (tkx (σ 55) (σ 46 11) t) ∧ τ 46 14 = nmt (σ 55) t) ∧ (¬ isNm (σ 55) t lo hi → WR τ t.2.1)) := by
  refine ev_enter okX6_number.1 (Nat.le_of_ble_eq_true rfl) ?_
  have hL := h
  obtain ⟨k1, k2, k3, k4, k5, k6⟩ := h
  have t1 := k1.1
  have bs := bAt_bd k1 (k := t.2.1) (by omega)
  have i2 : t.1 = 2 ↔ isDg (bAt (σ 55) (σ 46 11) t.2.1) = true := by
    rw [← tk2 (B := σ 55) (L := σ 46 11) (s := t.2.1), ← k5]
  generalize hd : (if isDg (bAt (σ 55) (σ 46 11) t.2.1) = true then (1 : Int) else 0) = d
  have fin : ∀ (v : Int) (ls : List (Nat × ev_V)), ev_lk ls 0 = some (vR 46) → ev_lk ls 1 = some (vI lo) → ev_lk ls 2 = some (vI hi) → ev_lk ls 3 = some (vI d) → ev_lk ls 4 = some (vI v) → (-2147483648 ≤ v ∧ v < 2147483648) → (isNm (σ 55) t lo hi ↔ t.1 = 2 ∧ lo ≤ v ∧ v ≤ hi) → (isNm (σ 55) t lo hi → v = nmt (σ 55) t) → Ev b mX6_number 79 ls [] σ (fun r τ => r = none ∧ frM σ τ ∧ (isNm (σ 55) t lo hi → LR τ (tkx (σ 55) (σ 46 11) t) ∧ τ 46 14 = nmt (σ 55) t) ∧ (¬ isNm (σ 55) t lo hi → WR τ t.2.1)) := by
    intro v ls l0 l1 l2 l3 l4 vb iff iv
    refine Ev.lsub (ls' := [(0, vR 46), (1, vI lo), (2, vI hi), (3, vI d), (4, vI v)]) (by simp [l0, l1, l2, l3, l4]) ?_
    have fr : frM σ (mup σ 46 14 v) := frM_m (by omega)
    have no : ¬ isNm (σ 55) t lo hi → Ev b mX6_number 108 [(0, vR 46), (1, vI lo), (2, vI hi), (3, vI d), (4, vI v)] [vI 0, vR 46] (mup σ 46 14 v) (fun r τ => r = none ∧ frM σ τ ∧ (isNm (σ 55) t lo hi → LR τ (tkx (σ 55) (σ 46 11) t) ∧ τ 46 14 = nmt (σ 55) t) ∧ (¬ isNm (σ 55) t lo hi → WR τ t.2.1)) := by
      intro z
      refine ev_V0 (c_must_n (Or.inr ⟨by rw [mup_off (by decide)]; exact k2, rfl⟩) (Or.inl rfl)) okX6_must dX6_number_108 mlX6_251 rfl rfl ⟨by decide, by decide⟩ rfl (Nat.le_of_ble_eq_true rfl) ?_
      refine ev_vret dX6_number_111 rfl ?_
      have fr2 := frM_tr fr (frM_m (σ := mup σ 46 14 v) (i := 15) (v := 1) (by omega))
      refine ⟨rfl, fr2, fun q => absurd q z, fun _ => ⟨okTR_fr fr2 k1, mup_at, ?_, by omega, ?_⟩⟩
      · rw [mup_off (by decide), mup_off (by decide)]; exact k3
      · have e13 : mup (mup σ 46 14 v) 46 15 1 46 13 = σ 46 13 := by rw [mup_off (by decide), mup_off (by decide)]
        rw [e13, fr2.2 11 (by omega)]
        omega
    have db : d = 0 ∨ d = 1 := by rw [← hd]; split <;> simp
    have dd : d = 1 ↔ t.1 = 2 := by
      rw [i2, ← hd]
      by_cases z : isDg (bAt (σ 55) (σ 46 11) t.2.1) = true
      · rw [if_pos z]; exact ⟨fun _ => z, fun _ => rfl⟩
      · rw [if_neg z]; exact ⟨fun q => absurd q (by decide), fun q => absurd q z⟩
    refine ev_aload_n dX6_number_79 rfl ?_
    refine ev_iload dX6_number_80 rfl ?_
    refine ev_put (ty := .int) 14 14 dX6_number_82 rfl rfl flX6_248 iwX6 tyX6_ok nmX6 (by decide) rfl rfl (by decide +kernel) rfl rfl rfl ?_
    refine ev_aload_n dX6_number_85 rfl ?_
    refine ev_iload_n dX6_number_86 rfl ?_
    refine ev_if_eq (tgt := 107) dX6_number_87 (by decide) (by omega) (fun c87 => ?_) (fun c87 => ?_)
    · refine ev_iconst dX6_number_107 ?_
      exact no (fun q => by have := dd.mpr (iff.mp q).1; omega)
    · refine ev_iload dX6_number_90 rfl ?_
      refine ev_i2l dX6_number_92 (by omega) ?_
      refine ev_iload_n dX6_number_93 rfl ?_
      refine ev_i2l dX6_number_94 (by omega) ?_
      refine ev_iload_n dX6_number_95 rfl ?_
      refine ev_i2l dX6_number_96 (by omega) ?_
      refine ev_Sbeq (tgt := 107) (c_X6_in (by omega) (by omega) (by omega)) okX6_in dX6_number_97 mlX6_53 ⟨by decide, by decide⟩ rfl (Nat.le_of_ble_eq_true rfl) dX6_number_100 (by decide) (fun c97 => ?_) (fun c97 => ?_)
      · refine ev_iconst dX6_number_107 ?_
        exact no (fun q => c97 (iff.mp q).2)
      · have y : isNm (σ 55) t lo hi := iff.mpr ⟨dd.mp (by omega), c97⟩
        refine ev_iconst dX6_number_103 ?_
        refine ev_goto (tgt := 108) dX6_number_104 (by decide) ?_
        refine ev_callV (c_must_y (LR_m hL)) okX6_must dX6_number_108 mlX6_251 rfl rfl ⟨by decide, by decide⟩ rfl (Nat.le_of_ble_eq_true rfl) (fun r108 τ108 h108 => ?_)
        obtain ⟨rfl, g1, g2, g3⟩ := h108
        rw [mup_ne (by decide), mup_off (by decide)] at g1
        rw [mup_at] at g2
        refine ev_vret dX6_number_111 rfl ?_
        exact ⟨rfl, frM_tr fr g3, fun _ => ⟨g1, by rw [g2]; exact iv y⟩, fun q => absurd y q⟩
  have loop : t.1 = 2 → ∀ (m k : Nat) (ls : List (Nat × ev_V)), ev_lk ls 0 = some (vR 46) → ev_lk ls 1 = some (vI lo) → ev_lk ls 2 = some (vI hi) → ev_lk ls 3 = some (vI d) → ev_lk ls 4 = some (vI (nv (σ 55) t.2.1 k)) → ev_lk ls 5 = some (vI (t.2.1 + k)) → k + m = (t.2.2 - t.2.1).toNat → Ev b mX6_number 29 ls [] σ (fun r τ => r = none ∧ frM σ τ ∧ (isNm (σ 55) t lo hi → LR τ (tkx (σ 55) (σ 46 11) t) ∧ τ 46 14 = nmt (σ 55) t) ∧ (¬ isNm (σ 55) t lo hi → WR τ t.2.1)) := by
    intro h2
    have d1 : d = 1 := by rw [← hd, if_pos (i2.mp h2)]
    have dg := LR_dg hL h2
    intro m
    induction m with
    | zero =>
      intro k ls l0 l1 l2 l3 l4 l5 hk
      refine Ev.lsub (ls' := [(0, vR 46), (1, vI lo), (2, vI hi), (3, vI d), (4, vI (nv (σ 55) t.2.1 k)), (5, vI (t.2.1 + k))]) (by simp [l0, l1, l2, l3, l4, l5]) ?_
      have q := nv_nm (B := σ 55) (a := t.2.1) k (fun x hx => dg x (by omega))
      have en : nmt (σ 55) t = nmN (σ 55) t.2.1 k := by unfold nmt nm; rw [← hk, Nat.add_zero]
      refine ev_iload dX6_number_29 rfl ?_
      refine ev_aload_n dX6_number_31 rfl ?_
      refine ev_geti 13 13 dX6_number_32 rfl rfl flX6_222 iwX6 (by decide) rfl rfl ?_
      refine ev_icmp_ge (tgt := 79) dX6_number_35 (by decide) (by omega) (by omega) (fun c35 => ?_) (fun c35 => ?_)
      · refine fin _ _ rfl rfl rfl rfl rfl (by omega) ?_ ?_
        · show (t.1 = 2 ∧ lo ≤ nmt (σ 55) t ∧ nmt (σ 55) t ≤ hi) ↔ _
          rw [en]
          constructor
          · rintro ⟨x1, x2, x3⟩; exact ⟨x1, by omega, by omega⟩
          · rintro ⟨x1, x2, x3⟩; exact ⟨x1, by omega, by omega⟩
        · intro y
          have y3 := y.2.2
          rw [en] at y3 ⊢
          omega
      · exact absurd c35 (by omega)
    | succ m ih =>
      intro k ls l0 l1 l2 l3 l4 l5 hk
      refine Ev.lsub (ls' := [(0, vR 46), (1, vI lo), (2, vI hi), (3, vI d), (4, vI (nv (σ 55) t.2.1 k)), (5, vI (t.2.1 + k))]) (by simp [l0, l1, l2, l3, l4, l5]) ?_
      have q := nv_nm (B := σ 55) (a := t.2.1) k (fun x hx => dg x (by omega))
      have dk := dg k (by omega)
      have nx : ∀ (v : Int) (ls : List (Nat × ev_V)), v = nv (σ 55) t.2.1 (k + 1) → ev_lk ls 0 = some (vR 46) → ev_lk ls 1 = some (vI lo) → ev_lk ls 2 = some (vI hi) → ev_lk ls 3 = some (vI d) → ev_lk ls 5 = some (vI (t.2.1 + k)) → Ev b mX6_number 71 ls [vI v] σ (fun r τ => r = none ∧ frM σ τ ∧ (isNm (σ 55) t lo hi → LR τ (tkx (σ 55) (σ 46 11) t) ∧ τ 46 14 = nmt (σ 55) t) ∧ (¬ isNm (σ 55) t lo hi → WR τ t.2.1)) := by
        intro v ls hv l0 l1 l2 l3 l5
        refine Ev.lsub (ls' := [(0, vR 46), (1, vI lo), (2, vI hi), (3, vI d), (5, vI (t.2.1 + k))]) (by simp [l0, l1, l2, l3, l5]) ?_
        refine ev_istore dX6_number_71 (by decide) rfl ?_
        refine ev_iinc dX6_number_73 rfl (by decide) rfl ?_
        refine ev_goto (tgt := 29) dX6_number_76 (by decide) ?_
        refine ih (k + 1) _ rfl rfl rfl rfl (by rw [← hv]; rfl) ?_ (by omega)
        show some (vI _) = some (vI _)
        congr 2
        omega
      refine ev_iload dX6_number_29 rfl ?_
      refine ev_aload_n dX6_number_31 rfl ?_
      refine ev_geti 13 13 dX6_number_32 rfl rfl flX6_222 iwX6 (by decide) rfl rfl ?_
      refine ev_icmp_ge (tgt := 79) dX6_number_35 (by decide) (by omega) (by omega) (fun c35 => ?_) (fun c35 => ?_)
      · exact absurd c35 (by omega)
      · refine ev_iload_n dX6_number_38 rfl ?_
        refine ev_if_eq (tgt := 79) dX6_number_39 (by decide) (by omega) (fun c39 => ?_) (fun c39 => ?_)
        · exact absurd c39 (by omega)
        · refine ev_iload dX6_number_42 rfl ?_
          refine ev_sipush dX6_number_44 (by decide) ?_
          refine ev_icmp_le (tgt := 55) dX6_number_47 (by decide) (by omega) (by omega) (fun c47 => ?_) (fun c47 => ?_)
          · refine ev_bipush dX6_number_55 (by decide) ?_
            refine ev_iload dX6_number_57 rfl ?_
            refine ev_imul dX6_number_59 ?_
            refine ev_aload_n dX6_number_60 rfl ?_
            refine ev_getr 10 dX6_number_61 rfl rfl flX6_34 iwX6 (by decide) rfl ?_
            refine ev_iload dX6_number_64 rfl ?_
            refine ev_iald dX6_number_66 rfl (by omega) ?_
            refine ev_iadd dX6_number_67 ?_
            refine ev_bipush dX6_number_68 (by decide) ?_
            refine ev_isub dX6_number_70 ?_
            exact nx _ _ (by rw [nv, if_neg (by omega)]) rfl rfl rfl rfl rfl
          · refine ev_iload dX6_number_50 rfl ?_
            refine ev_goto (tgt := 71) dX6_number_52 (by decide) ?_
            exact nx _ _ (by rw [nv, if_pos (by omega)]) rfl rfl rfl rfl rfl
  refine ev_aload_n dX6_number_0 rfl ?_
  refine ev_geti 15 15 dX6_number_1 rfl rfl flX6_237 iwX6 (by decide) rfl rfl ?_
  refine ev_if_eq (tgt := 8) dX6_number_4 (by decide) (by omega) (fun c4 => ?_) (fun c4 => ?_)
  · refine ev_aload_n dX6_number_8 rfl ?_
    refine ev_aload_n dX6_number_9 rfl ?_
    refine ev_geti 12 12 dX6_number_10 rfl rfl flX6_225 iwX6 (by decide) rfl rfl ?_
    rw [k3]
    refine ev_V1 (c_X6_byteAt (by omega) t1) okX6_byteAt dX6_number_13 mlX6_228 rfl rfl ⟨by decide, by decide⟩ rfl (Nat.le_of_ble_eq_true rfl) ?_
    refine ev_S1 (c_X6_isDigit bs) okX6_isDigit dX6_number_16 mlX6_234 ⟨by decide, by decide⟩ rfl (Nat.le_of_ble_eq_true rfl) ?_
    rw [hd]
    refine ev_istore_n dX6_number_19 (by decide) rfl ?_
    refine ev_iconst dX6_number_20 ?_
    refine ev_istore dX6_number_21 (by decide) rfl ?_
    refine ev_aload_n dX6_number_23 rfl ?_
    refine ev_geti 12 12 dX6_number_24 rfl rfl flX6_225 iwX6 (by decide) rfl rfl ?_
    rw [k3]
    by_cases h2 : t.1 = 2
    · refine ev_istore dX6_number_27 (by decide) rfl ?_
      exact loop h2 (t.2.2 - t.2.1).toNat 0 _ rfl rfl rfl rfl rfl (by rw [show ((0 : Nat) : Int) = 0 from rfl, Int.add_zero]; rfl) (by omega)
    · have d0 : d = 0 := by rw [← hd, if_neg (fun z => h2 (i2.mpr z))]
      have g : Ev b mX6_number 79 [(0, vR 46), (1, vI lo), (2, vI hi), (3, vI d), (4, vI 0), (5, vI t.2.1)] [] σ (fun r τ => r = none ∧ frM σ τ ∧ (isNm (σ 55) t lo hi → LR τ (tkx (σ 55) (σ 46 11) t) ∧ τ 46 14 = nmt (σ 55) t) ∧ (¬ isNm (σ 55) t lo hi → WR τ t.2.1)) := fin 0 _ rfl rfl rfl rfl rfl (by omega) ⟨fun q => absurd q.1 h2, fun q => absurd q.1 h2⟩ (fun q => absurd q.1 h2)
      refine ev_istore dX6_number_27 (by decide) rfl ?_
      refine ev_iload dX6_number_29 rfl ?_
      refine ev_aload_n dX6_number_31 rfl ?_
      refine ev_geti 13 13 dX6_number_32 rfl rfl flX6_222 iwX6 (by decide) rfl rfl ?_
      refine ev_icmp_ge (tgt := 79) dX6_number_35 (by decide) (by omega) (by omega) (fun c35 => ?_) (fun c35 => ?_)
      · exact g
      · refine ev_iload_n dX6_number_38 rfl ?_
        refine ev_if_eq (tgt := 79) dX6_number_39 (by decide) (by omega) (fun c39 => ?_) (fun c39 => ?_)
        · exact g
        · exact absurd d0 c39
  · exact absurd k2 c4
theorem c_num_w {b : ev_B} {σ : ev_M} {x lo hi : Int} (h : WR σ x) : CF b mX6_number [vR 46, vI lo, vI hi] σ none σ := by
  refine ev_enter okX6_number.1 (Nat.le_of_ble_eq_true rfl) ?_
  have h15 := h.2.1
  refine ev_aload_n dX6_number_0 rfl ?_
  refine ev_geti 15 15 dX6_number_1 rfl rfl flX6_237 iwX6 (by decide) rfl rfl ?_
  refine ev_if_eq (tgt := 8) dX6_number_4 (by decide) (by omega) (fun c4 => ?_) (fun c4 => ?_)
  · exact absurd c4 (by omega)
  · refine ev_vret dX6_number_7 rfl ?_
    exact ⟨rfl, rfl⟩
