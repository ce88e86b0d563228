/-! the model at a token -/
def frM (σ τ : ev_M) : Prop := (∀ a : Nat, a ≠ 46 → τ a = σ a) ∧ ∀ i : Int, i < 12 ∨ 15 < i → τ 46 i = σ 46 i
theorem frM_rf {σ : ev_M} : frM σ σ := ⟨fun _ _ => rfl, fun _ _ => rfl⟩
theorem frM_tr {σ τ ω : ev_M} (h : frM σ τ) (g : frM τ ω) : frM σ ω := ⟨fun a ha => by rw [g.1 a ha, h.1 a ha], fun i hi => by rw [g.2 i hi, h.2 i hi]⟩
theorem frM_m {σ : ev_M} {i v : Int} (h : 12 ≤ i ∧ i ≤ 15) : frM σ (mup σ 46 i v) := ⟨fun a ha => mup_ne ha, fun j hj => mup_off (by omega)⟩
theorem okTR_fr {σ τ : ev_M} (h : frM σ τ) (H : okTR σ) : okTR τ := by
  unfold okTR
  rw [h.2 11 (by omega), h.1 55 (by decide)]
  exact H
/-- the model stands at a token, nothing wrong -/
def LR (σ : ev_M) (t : Tk) : Prop := okTR σ ∧ σ 46 15 = 0 ∧ σ 46 12 = t.2.1 ∧ σ 46 13 = t.2.2 ∧ t = tkAt (σ 55) (σ 46 11) t.2.1 ∧ (0 ≤ t.2.1 ∧ t.2.1 ≤ t.2.2 ∧ t.2.2 ≤ σ 46 11)
/-- something is wrong at x -/
def WR (σ : ev_M) (x : Int) : Prop := okTR σ ∧ σ 46 15 = 1 ∧ σ 46 12 = x ∧ (0 ≤ x ∧ x ≤ 120) ∧ (0 ≤ σ 46 13 ∧ σ 46 13 ≤ σ 46 11)
theorem tk_at {B : Int → Int} {L p : Int} : tk B L p = tkAt B L (tk B L p).2.1 := by
  unfold tk
  rw [tkAt_s]
theorem c_must_y {b : ev_B} {σ : ev_M} {t : Tk} (h : LR σ t) : Cl b mX6_must [vR 46, vI 1] σ (fun r τ => r = none ∧ LR τ (tkx (σ 55) (σ 46 11) t) ∧ τ 46 14 = σ 46 14 ∧ frM σ τ) := by
  refine ev_enter okX6_must.1 (Nat.le_of_ble_eq_true rfl) ?_
  obtain ⟨h1, h2, h3, h4, h5, h6⟩ := h
  refine ev_aload_n dX6_must_0 rfl ?_
  refine ev_aload_n dX6_must_1 rfl ?_
  refine ev_geti 15 15 dX6_must_2 rfl rfl flX6_237 iwX6 (by decide) rfl rfl ?_
  refine ev_if_ne (tgt := 12) dX6_must_5 (by decide) (by omega) (fun c5 => ?_) (fun c5 => ?_)
  · exact absurd h2 c5
  · refine ev_iload_n dX6_must_8 rfl ?_
    refine ev_if_ne (tgt := 16) dX6_must_9 (by decide) (by omega) (fun c9 => ?_) (fun c9 => ?_)
    · refine ev_iconst dX6_must_16 ?_
      refine ev_put (ty := .boolean) 15 15 dX6_must_17 rfl rfl flX6_237 iwX6 tyX6_ok nmX6 (by decide) rfl rfl (by decide +kernel) rfl rfl rfl ?_
      generalize hω : mup σ 46 15 0 = ω
      have w15 : ω 46 15 = 0 := by rw [← hω, mup_at]
      have fr : frM σ ω := by rw [← hω]; exact frM_m (by omega)
      have wi : ∀ i : Int, i ≠ 15 → ω 46 i = σ 46 i := fun i hi => by rw [← hω, mup_off hi]
      have w13 : ω 46 13 = t.2.2 := by rw [wi 13 (by decide)]; exact h4
      have w11 := wi 11 (by decide)
      have w55 := fr.1 55 (by decide)
      refine ev_aload_n dX6_must_20 rfl ?_
      refine ev_geti 15 15 dX6_must_21 rfl rfl flX6_237 iwX6 (by decide) rfl rfl ?_
      refine ev_if_ne (tgt := 31) dX6_must_24 (by decide) (by omega) (fun c24 => ?_) (fun c24 => ?_)
      · exact absurd w15 c24
      · refine ev_aload_n dX6_must_27 rfl ?_
        refine ev_V0 (c_X6_token (okTR_fr fr h1) (by omega)) okX6_token dX6_must_28 mlX6_241 rfl rfl ⟨by decide, by decide⟩ rfl (Nat.le_of_ble_eq_true rfl) ?_
        refine ev_vret dX6_must_31 rfl ?_
        rw [w55, w11, w13]
        have q := tk_bd (B := σ 55) (L := σ 46 11) (p := t.2.2) (by omega)
        have e : ∀ i : Int, i ≠ 12 → i ≠ 13 → ∀ f t, mR ω f t 46 i = ω 46 i := fun i x1 x2 f t => by unfold mR; rw [mup_off x2, mup_off x1]
        have e2 : ∀ a : Nat, a ≠ 46 → ∀ f t, mR ω f t a = ω a := fun a x f t => by unfold mR; rw [mup_ne x, mup_ne x]
        have fr2 : ∀ f t, frM ω (mR ω f t) := fun f t => ⟨fun a x => e2 a x f t, fun i hi => e i (by omega) (by omega) f t⟩
        refine ⟨rfl, ⟨okTR_fr (frM_tr fr (fr2 _ _)) h1, ?_, ?_, ?_, ?_, ?_⟩, ?_, frM_tr fr (fr2 _ _)⟩
        · rw [e 15 (by decide) (by decide)]; exact w15
        · show mR ω _ _ 46 12 = _
          unfold mR; rw [mup_off (by decide), mup_at]; rfl
        · show mR ω _ _ 46 13 = _
          unfold mR; rw [mup_at]; rfl
        · rw [e 11 (by decide) (by decide), e2 55 (by decide), w55, w11]
          exact tk_at
        · rw [e 11 (by decide) (by decide), w11]
          unfold tkx
          omega
        · rw [e 14 (by decide) (by decide)]; exact wi 14 (by decide)
    · exact absurd c9 (by decide)
theorem c_must_n {b : ev_B} {σ : ev_M} {z : Int} (h : σ 46 15 = 1 ∨ (σ 46 15 = 0 ∧ z = 0)) (hz : z = 0 ∨ z = 1) : CF b mX6_must [vR 46, vI z] σ none (mup σ 46 15 1) := by
  refine ev_enter okX6_must.1 (Nat.le_of_ble_eq_true rfl) ?_
  have w : mup σ 46 15 1 46 15 = 1 := mup_at
  refine ev_aload_n dX6_must_0 rfl ?_
  refine ev_aload_n dX6_must_1 rfl ?_
  refine ev_geti 15 15 dX6_must_2 rfl rfl flX6_237 iwX6 (by decide) rfl rfl ?_
  refine ev_if_ne (tgt := 12) dX6_must_5 (by decide) (by omega) (fun c5 => ?_) (fun c5 => ?_)
  · refine ev_iconst dX6_must_12 ?_
    refine ev_goto (tgt := 17) dX6_must_13 (by decide) ?_
    refine ev_put (ty := .boolean) 15 15 dX6_must_17 rfl rfl flX6_237 iwX6 tyX6_ok nmX6 (by decide) rfl rfl (by decide +kernel) rfl rfl rfl ?_
    refine ev_aload_n dX6_must_20 rfl ?_
    refine ev_geti 15 15 dX6_must_21 rfl rfl flX6_237 iwX6 (by decide) rfl rfl ?_
    refine ev_if_ne (tgt := 31) dX6_must_24 (by decide) (by omega) (fun c24 => ?_) (fun c24 => ?_)
    · refine ev_vret dX6_must_31 rfl ?_
      exact ⟨rfl, rfl⟩
    · exact absurd c24 (by omega)
  · refine ev_iload_n dX6_must_8 rfl ?_
    refine ev_if_ne (tgt := 16) dX6_must_9 (by decide) (by omega) (fun c9 => ?_) (fun c9 => ?_)
    · exact absurd c9 (by omega)
    · refine ev_iconst dX6_must_12 ?_
      refine ev_goto (tgt := 17) dX6_must_13 (by decide) ?_
      refine ev_put (ty := .boolean) 15 15 dX6_must_17 rfl rfl flX6_237 iwX6 tyX6_ok nmX6 (by decide) rfl rfl (by decide +kernel) rfl rfl rfl ?_
      refine ev_aload_n dX6_must_20 rfl ?_
      refine ev_geti 15 15 dX6_must_21 rfl rfl flX6_237 iwX6 (by decide) rfl rfl ?_
      refine ev_if_ne (tgt := 31) dX6_must_24 (by decide) (by omega) (fun c24 => ?_) (fun c24 => ?_)
      · refine ev_vret dX6_must_31 rfl ?_
        exact ⟨rfl, rfl⟩
      · exact absurd c24 (by omega)
/-- letters as digits to the base 32 -/
def wv (B : Int → Int) (a : Int) : Nat → Int
  | 0 => 0
  | n + 1 => if 36028797018963967 < wv B a n then wv B a n else (Int64.ofInt (32 * wv B a n + (B (a + n) - 96))).toInt
theorem wv_bd {B : Int → Int} {a : Int} : ∀ n : Nat, -9223372036854775808 ≤ wv B a n ∧ wv B a n < 9223372036854775808
  | 0 => by simp [wv]
  | n + 1 => by
    have := wv_bd (B := B) (a := a) n
    unfold wv
    split
    · exact this
    · exact i64b _
/-- the word that stands here -/
def wdv (B : Int → Int) (t : Tk) : Int := if t.1 = 1 then wv B t.2.1 (t.2.2 - t.2.1).toNat else 0
theorem tk1 {B : Int → Int} {L s : Int} : (tkAt B L s).1 = 1 ↔ isLt (bAt B L s) = true := by
  unfold tkAt bAt
  by_cases z : L ≤ s
  · rw [if_pos z, if_neg (show ¬ s < L by omega)]
    exact ⟨fun h => by simp at h, fun h => absurd h (by decide)⟩
  · rw [if_neg z, if_pos (show s < L by omega)]
    by_cases z1 : isLt (B s) = true
    · rw [if_pos z1]; exact ⟨fun _ => z1, fun _ => rfl⟩
    · rw [if_neg z1]
      refine ⟨fun h => ?_, fun h => absurd h z1⟩
      split at h
      · simp at h
      · split at h
        · simp at h
        · simp at h
theorem c_X6_word {b : ev_B} {σ : ev_M} (HT : okTR σ) (h12 : 0 ≤ σ 46 12 ∧ σ 46 12 ≤ 120) (h13 : 0 ≤ σ 46 13 ∧ σ 46 13 ≤ σ 46 11) (h15 : σ 46 15 = 0 ∨ σ 46 15 = 1) : CF b mX6_word [vR 46] σ (some (vL (if σ 46 15 = 0 ∧ isLt (bAt (σ 55) (σ 46 11) (σ 46 12)) = true then wv (σ 55) (σ 46 12) (σ 46 13 - σ 46 12).toNat else 0))) σ := by
  refine ev_enter okX6_word.1 (Nat.le_of_ble_eq_true rfl) ?_
  have t1 := HT.1
  have bs := bAt_bd HT h12.1
  have fin : ∀ (v : Int) (ls : List (Nat × ev_V)), ev_lk ls 0 = some (vR 46) → ev_lk ls 1 = some (vL v) → Ev b mX6_word 50 ls [] σ (fun r τ => r = some (vL (if σ 46 15 = 0 ∧ isLt (bAt (σ 55) (σ 46 11) (σ 46 12)) = true then v else 0)) ∧ τ = σ) := by
    intro v ls l0 l1
    refine Ev.lsub (ls' := [(0, vR 46), (1, vL v)]) (by simp [l0, l1]) ?_
    refine ev_aload_n dX6_word_50 rfl ?_
    refine ev_geti 15 15 dX6_word_51 rfl rfl flX6_237 iwX6 (by decide) rfl rfl ?_
    refine ev_if_ne (tgt := 71) dX6_word_54 (by decide) (by omega) (fun c54 => ?_) (fun c54 => ?_)
    · refine ev_lconst (z := 0) dX6_word_71 rfl ?_
      refine ev_goto (tgt := 76) dX6_word_72 (by decide) ?_
      refine ev_lret dX6_word_76 rfl ?_
      rw [if_neg (fun z => c54 z.1)]
      exact ⟨rfl, rfl⟩
    · refine ev_aload_n dX6_word_57 rfl ?_
      refine ev_aload_n dX6_word_58 rfl ?_
      refine ev_geti 12 12 dX6_word_59 rfl rfl flX6_225 iwX6 (by decide) rfl rfl ?_
      refine ev_V1 (c_X6_byteAt (by omega) t1) okX6_byteAt dX6_word_62 mlX6_228 rfl rfl ⟨by decide, by decide⟩ rfl (Nat.le_of_ble_eq_true rfl) ?_
      refine ev_Sbne (tgt := 75) (c_X6_isLetter bs) okX6_isLetter dX6_word_65 mlX6_231 ⟨by decide, by decide⟩ rfl (Nat.le_of_ble_eq_true rfl) dX6_word_68 (by decide) (fun c65 => ?_) (fun c65 => ?_)
      · refine ev_lload_n dX6_word_75 rfl ?_
        refine ev_lret dX6_word_76 rfl ?_
        rw [if_pos ⟨c54, c65⟩]
        exact ⟨rfl, rfl⟩
      · refine ev_lconst (z := 0) dX6_word_71 rfl ?_
        refine ev_goto (tgt := 76) dX6_word_72 (by decide) ?_
        refine ev_lret dX6_word_76 rfl ?_
        rw [if_neg (fun z => c65 z.2)]
        exact ⟨rfl, rfl⟩
  have loop : ∀ (m k : Nat) (ls : List (Nat × ev_V)), ev_lk ls 0 = some (vR 46) → ev_lk ls 1 = some (vL (wv (σ 55) (σ 46 12) k)) → ev_lk ls 3 = some (vI (σ 46 12 + k)) → k + m = (σ 46 13 - σ 46 12).toNat → Ev b mX6_word 7 ls [] σ (fun r τ => r = some (vL (if σ 46 15 = 0 ∧ isLt (bAt (σ 55) (σ 46 11) (σ 46 12)) = true then wv (σ 55) (σ 46 12) (σ 46 13 - σ 46 12).toNat else 0)) ∧ τ = σ) := by
    intro m
    induction m with
    | zero =>
      intro k ls l0 l1 l3 h
      refine Ev.lsub (ls' := [(0, vR 46), (1, vL (wv (σ 55) (σ 46 12) k)), (3, vI (σ 46 12 + k))]) (by simp [l0, l1, l3]) ?_
      refine ev_iload_n dX6_word_7 rfl ?_
      refine ev_aload_n dX6_word_8 rfl ?_
      refine ev_geti 13 13 dX6_word_9 rfl rfl flX6_222 iwX6 (by decide) rfl rfl ?_
      refine ev_icmp_ge (tgt := 50) dX6_word_12 (by decide) (by omega) (by omega) (fun c12 => ?_) (fun c12 => ?_)
      · rw [← h, Nat.add_zero]
        exact fin _ _ rfl rfl
      · exact absurd c12 (by omega)
    | succ m ih =>
      intro k ls l0 l1 l3 h
      refine Ev.lsub (ls' := [(0, vR 46), (1, vL (wv (σ 55) (σ 46 12) k)), (3, vI (σ 46 12 + k))]) (by simp [l0, l1, l3]) ?_
      have vb := wv_bd (B := σ 55) (a := σ 46 12) k
      have bb := HT.2 (σ 46 12 + k) (by omega)
      have nx : ∀ (v : Int) (ls : List (Nat × ev_V)), v = wv (σ 55) (σ 46 12) (k + 1) → ev_lk ls 0 = some (vR 46) → ev_lk ls 3 = some (vI (σ 46 12 + k)) → Ev b mX6_word 43 ls [vL v] σ (fun r τ => r = some (vL (if σ 46 15 = 0 ∧ isLt (bAt (σ 55) (σ 46 11) (σ 46 12)) = true then wv (σ 55) (σ 46 12) (σ 46 13 - σ 46 12).toNat else 0)) ∧ τ = σ) := by
        intro v ls hv l0 l3
        refine Ev.lsub (ls' := [(0, vR 46), (3, vI (σ 46 12 + k))]) (by simp [l0, l3]) ?_
        refine ev_lstore_n dX6_word_43 (by decide) rfl ?_
        refine ev_iinc dX6_word_44 rfl (by decide) rfl ?_
        refine ev_goto (tgt := 7) dX6_word_47 (by decide) ?_
        refine ih (k + 1) _ rfl (by rw [← hv]; rfl) ?_ (by omega)
        show some (vI _) = some (vI _)
        congr 2
        omega
      refine ev_iload_n dX6_word_7 rfl ?_
      refine ev_aload_n dX6_word_8 rfl ?_
      refine ev_geti 13 13 dX6_word_9 rfl rfl flX6_222 iwX6 (by decide) rfl rfl ?_
      refine ev_icmp_ge (tgt := 50) dX6_word_12 (by decide) (by omega) (by omega) (fun c12 => ?_) (fun c12 => ?_)
      · exact absurd c12 (by omega)
      · refine ev_lload_n dX6_word_15 rfl ?_
        refine ev_ldc2 (z := 36028797018963967) dX6_word_16 klX6_244 (by decide) ?_
        refine ev_lc_le (tgt := 27) dX6_word_19 dX6_word_20 (by decide) (by omega) (by omega) (fun c19 => ?_) (fun c19 => ?_)
        · refine ev_ldc2 (z := 32) dX6_word_27 klX6_246 (by decide) ?_
          refine ev_lload_n dX6_word_30 rfl ?_
          refine ev_lmul dX6_word_31 ?_
          refine ev_aload_n dX6_word_32 rfl ?_
          refine ev_getr 10 dX6_word_33 rfl rfl flX6_34 iwX6 (by decide) rfl ?_
          refine ev_iload_n dX6_word_36 rfl ?_
          refine ev_iald dX6_word_37 rfl (by omega) ?_
          refine ev_bipush dX6_word_38 (by decide) ?_
          refine ev_isub dX6_word_40 ?_
          refine ev_i2l dX6_word_41 (by omega) ?_
          refine ev_ladd dX6_word_42 ?_
          refine ev_lwrap ?_
          exact nx _ _ (by rw [wv, if_neg (by omega)]) rfl rfl
        · refine ev_lload_n dX6_word_23 rfl ?_
          refine ev_goto (tgt := 43) dX6_word_24 (by decide) ?_
          exact nx _ _ (by rw [wv, if_pos (by omega)]) rfl rfl
  refine ev_lconst (z := 0) dX6_word_0 rfl ?_
  refine ev_lstore_n dX6_word_1 (by decide) rfl ?_
  refine ev_aload_n dX6_word_2 rfl ?_
  refine ev_geti 12 12 dX6_word_3 rfl rfl flX6_225 iwX6 (by decide) rfl rfl ?_
  refine ev_istore_n dX6_word_6 (by decide) rfl ?_
  exact loop (σ 46 13 - σ 46 12).toNat 0 _ rfl rfl (by rw [show ((0 : Nat) : Int) = 0 from rfl, Int.add_zero]; rfl) (by omega)
