/-! the model's row of ints as a plain -/
def wr (f : Int → Int) : ev_M := fun j i => match j with
  | 0 => if i = 1 then f 3 else if i = 2 then f 2 else if i = 3 then f 0 else f 1
  | 1 => f (4 + i)
  | 2 => f (52 + 4 * i + 0)
  | 3 => f (52 + 4 * i + 1)
  | 4 => f (52 + 4 * i + 2)
  | 5 => f (52 + 4 * i + 3)
  | 6 => f (76 + 3 * i + 0)
  | 7 => f (76 + 3 * i + 1)
  | 8 => f (76 + 3 * i + 2)
  | _ => 0
theorem okr0 {f : Int → Int} (H : okP (wr f)) : (0 ≤ f 3 ∧ f 3 ≤ 20) ∧ 0 ≤ f 2 ∧ (0 ≤ f 0 ∧ f 0 ≤ 6) ∧ (0 ≤ f 1 ∧ f 1 ≤ 8) := ⟨H.1, H.2.1, H.2.2.1, H.2.2.2.1⟩
theorem okrw {f : Int → Int} (H : okP (wr f)) {c : Int} (h : 0 ≤ c ∧ c < 48) : 0 ≤ f (4 + c) ∧ f (4 + c) ≤ 99 := H.2.2.2.2.1 c h
theorem okrs {f : Int → Int} (H : okP (wr f)) {k : Int} (h : 0 ≤ k ∧ k < f 0) : (0 ≤ f (52 + 4 * k + 0) ∧ f (52 + 4 * k + 0) ≤ 5) ∧ (0 ≤ f (52 + 4 * k + 1) ∧ f (52 + 4 * k + 1) ≤ 30) ∧ (0 ≤ f (52 + 4 * k + 2) ∧ f (52 + 4 * k + 2) ≤ 99) ∧ 0 ≤ f (52 + 4 * k + 3) := H.2.2.2.2.2.1 k h
theorem okrl {f : Int → Int} (H : okP (wr f)) {l : Int} (h : 0 ≤ l ∧ l < f 1) : (0 ≤ f (76 + 3 * l + 0) ∧ f (76 + 3 * l + 0) < 48) ∧ (0 ≤ f (76 + 3 * l + 1) ∧ f (76 + 3 * l + 1) < f 0) ∧ (0 ≤ f (76 + 3 * l + 2) ∧ f (76 + 3 * l + 2) ≤ 9999) := H.2.2.2.2.2.2 l h
def eqS (f g : Int → Int) : Prop := ∀ i : Int, 0 ≤ i ∧ i < 100 → f i = g i
theorem eqS_rf {f : Int → Int} : eqS f f := fun _ _ => rfl
theorem eqS_tr {f g h : Int → Int} (a : eqS f g) (b : eqS g h) : eqS f h := fun i hi => (a i hi).trans (b i hi)
theorem eqS_wr {f g : Int → Int} (h : eqS f g) (H : okP (wr g)) : eqP (wr f) (wr g) := by
  have h0 := okr0 H
  refine ⟨h 3 (by omega), h 2 (by omega), h 0 (by omega), h 1 (by omega), fun c hc => h (4 + c) (by omega), fun k hk => ?_, fun l hl => ?_⟩
  · have hk2 : 0 ≤ k ∧ k < g 0 := hk
    exact ⟨h _ (by omega), h _ (by omega), h _ (by omega), h _ (by omega)⟩
  · have hl2 : 0 ≤ l ∧ l < g 1 := hl
    exact ⟨h _ (by omega), h _ (by omega), h _ (by omega)⟩
/-- who is there -/
def prA (a : Int) : Int → Bool := fun l => decide (a / pw l % 2 = 0)
theorem prA_0 : prA 0 = allp := by
  funext l
  unfold prA allp
  simp
theorem mst_two {P : ev_M} {pr : Int → Bool} {tb : Int → Int → Int} {c k s s' : Int} (hs : s ≤ -1000) (hs' : s' ≤ -1000) : ∀ {n : Nat}, (∀ l : Nat, l < n → -999 ≤ tb l (sp_dist (P 6 l) c) ∧ tb l (sp_dist (P 6 l) c) ≤ 1000) → (mst P pr tb c k s n = s ∧ mst P pr tb c k s' n = s') ∨ (mst P pr tb c k s n = mst P pr tb c k s' n ∧ -999 ≤ mst P pr tb c k s n ∧ mst P pr tb c k s n ≤ 1000)
  | 0, _ => Or.inl ⟨rfl, rfl⟩
  | n + 1, h => by
    have h1 := mst_two (P := P) (pr := pr) (tb := tb) (c := c) (k := k) hs hs' (n := n) (fun l hl => h l (by omega))
    have h2 := h n (by omega)
    unfold mst
    split <;> omega
theorem fearT_two {P : ev_M} {pr : Int → Bool} {tb : Int → Int → Int} {c s s' : Int} (hs : s ≤ -1000) (hs' : s' ≤ -1000) (h : ∀ l : Nat, l < (P 0 8).toNat → -999 ≤ tb l (sp_dist (P 6 l) c) ∧ tb l (sp_dist (P 6 l) c) ≤ 1000) : fearT P pr tb s c = fearT P pr tb s' c := by
  unfold fearT
  apply sm_congr
  intro k _
  rcases mst_two (P := P) (pr := pr) (tb := tb) (c := c) (k := k) hs hs' h with ⟨h1, h2⟩ | ⟨h1, h2, h3⟩
  · rw [if_pos h1, if_pos h2]
  · rw [if_neg (by omega), if_neg (by omega), h1]
theorem scr_bd {P : ev_M} {l d : Int} (H : okP P) (hl : 0 ≤ l ∧ l < P 0 8) (hd : 0 ≤ d) : -15 ≤ scr P l d ∧ scr P l d ≤ 70 := by
  have q := H.2.2.2.2.2.2 l hl
  have q2 := H.2.2.2.2.2.1 (P 7 l) q.2.1
  exact sp_scare_bd (sp_fade_bd q2.2.1 q.2.2.1) hd
theorem fear_R {P : ev_M} {pr : Int → Bool} {c : Int} (H : okP P) (hc : 0 ≤ c ∧ c < 48) : fearT P pr (scr P) (-1000) c = fear P pr c := by
  have h8 := H.2.2.2.1
  refine fearT_two (by omega) (by omega) (fun l hl => ?_)
  have q := H.2.2.2.2.2.2 l (by omega)
  have := scr_bd (l := l) (d := sp_dist (P 6 l) c) H (by omega) (sp_dist_bd q.1 hc).1
  omega
/-! the model's leaves -/
theorem c_X6_in {b : ev_B} {σ : ev_M} {v lo hi : Int} (h1 : (-9223372036854775808 ≤ v ∧ v < 9223372036854775808)) (h2 : (-9223372036854775808 ≤ lo ∧ lo < 9223372036854775808)) (h3 : (-9223372036854775808 ≤ hi ∧ hi < 9223372036854775808)) : CF b mX6_in [vL v, vL lo, vL hi] σ (some (vI (if lo ≤ v ∧ v ≤ hi then 1 else 0))) σ := by
  refine ev_enter okX6_in.1 (Nat.le_of_ble_eq_true rfl) ?_
  refine ev_lload_n dX6_in_0 rfl ?_
  refine ev_lload_n dX6_in_1 rfl ?_
  refine ev_lc_lt (tgt := 17) dX6_in_2 dX6_in_3 (by decide) (by omega) (by omega) (fun c2 => ?_) (fun c2 => ?_)
  · refine ev_iconst dX6_in_17 ?_
    refine ev_iret dX6_in_18 rfl (by first | rfl | exact ev_nb) ?_
    exact ⟨by first | rw [if_pos (by omega)] | rw [if_neg (by omega)], rfl⟩
  · refine ev_lload_n dX6_in_6 rfl ?_
    refine ev_lload dX6_in_7 rfl ?_
    refine ev_lc_gt (tgt := 17) dX6_in_9 dX6_in_10 (by decide) (by omega) (by omega) (fun c9 => ?_) (fun c9 => ?_)
    · refine ev_iconst dX6_in_17 ?_
      refine ev_iret dX6_in_18 rfl (by first | rfl | exact ev_nb) ?_
      exact ⟨by first | rw [if_pos (by omega)] | rw [if_neg (by omega)], rfl⟩
    · refine ev_iconst dX6_in_13 ?_
      refine ev_goto (tgt := 18) dX6_in_14 (by decide) ?_
      refine ev_iret dX6_in_18 rfl (by first | rfl | exact ev_nb) ?_
      exact ⟨by first | rw [if_pos (by omega)] | rw [if_neg (by omega)], rfl⟩
theorem c_X6_isCell {b : ev_B} {σ : ev_M} {v : Int} (h1 : (-2147483648 ≤ v ∧ v < 2147483648)) : CF b mX6_isCell [vI v] σ (some (vI (if 0 ≤ v ∧ v ≤ 47 then 1 else 0))) σ := by
  refine ev_enter okX6_isCell.1 (Nat.le_of_ble_eq_true rfl) ?_
  refine ev_iload_n dX6_isCell_0 rfl ?_
  refine ev_i2l dX6_isCell_1 (by omega) ?_
  refine ev_lconst (z := 0) dX6_isCell_2 rfl ?_
  refine ev_ldc2 (z := 47) dX6_isCell_3 klX6_51 (by decide) ?_
  refine ev_S1 (c_X6_in (by omega) (by omega) (by omega)) okX6_in dX6_isCell_6 mlX6_53 ⟨by decide, by decide⟩ rfl (Nat.le_of_ble_eq_true rfl) ?_
  refine ev_iret dX6_isCell_9 rfl (by first | rfl | exact ev_nb) ?_
  exact ⟨rfl, rfl⟩
theorem c_X6_isKind {b : ev_B} {σ : ev_M} {v : Int} (h1 : (-2147483648 ≤ v ∧ v < 2147483648)) : CF b mX6_isKind [vI v] σ (some (vI (if 0 ≤ v ∧ v ≤ 5 then 1 else 0))) σ := by
  refine ev_enter okX6_isKind.1 (Nat.le_of_ble_eq_true rfl) ?_
  refine ev_iload_n dX6_isKind_0 rfl ?_
  refine ev_i2l dX6_isKind_1 (by omega) ?_
  refine ev_lconst (z := 0) dX6_isKind_2 rfl ?_
  refine ev_ldc2 (z := 5) dX6_isKind_3 klX6_57 (by decide) ?_
  refine ev_S1 (c_X6_in (by omega) (by omega) (by omega)) okX6_in dX6_isKind_6 mlX6_53 ⟨by decide, by decide⟩ rfl (Nat.le_of_ble_eq_true rfl) ?_
  refine ev_iret dX6_isKind_9 rfl (by first | rfl | exact ev_nb) ?_
  exact ⟨rfl, rfl⟩
theorem c_X6_isOne {b : ev_B} {σ : ev_M} {v : Int} (h1 : (-2147483648 ≤ v ∧ v < 2147483648)) : CF b mX6_isOne [vI v] σ (some (vI (if 0 ≤ v ∧ v ≤ 3 then 1 else 0))) σ := by
  refine ev_enter okX6_isOne.1 (Nat.le_of_ble_eq_true rfl) ?_
  refine ev_iload_n dX6_isOne_0 rfl ?_
  refine ev_i2l dX6_isOne_1 (by omega) ?_
  refine ev_lconst (z := 0) dX6_isOne_2 rfl ?_
  refine ev_ldc2 (z := 3) dX6_isOne_3 klX6_311 (by decide) ?_
  refine ev_S1 (c_X6_in (by omega) (by omega) (by omega)) okX6_in dX6_isOne_6 mlX6_53 ⟨by decide, by decide⟩ rfl (Nat.le_of_ble_eq_true rfl) ?_
  refine ev_iret dX6_isOne_9 rfl (by first | rfl | exact ev_nb) ?_
  exact ⟨rfl, rfl⟩
theorem c_X6_isSoon {b : ev_B} {σ : ev_M} {v : Int} (h1 : (-2147483648 ≤ v ∧ v < 2147483648)) : CF b mX6_isSoon [vI v] σ (some (vI (if 1 ≤ v ∧ v ≤ 20 then 1 else 0))) σ := by
  refine ev_enter okX6_isSoon.1 (Nat.le_of_ble_eq_true rfl) ?_
  refine ev_iload_n dX6_isSoon_0 rfl ?_
  refine ev_i2l dX6_isSoon_1 (by omega) ?_
  refine ev_lconst (z := 1) dX6_isSoon_2 rfl ?_
  refine ev_ldc2 (z := 20) dX6_isSoon_3 klX6_112 (by decide) ?_
  refine ev_S1 (c_X6_in (by omega) (by omega) (by omega)) okX6_in dX6_isSoon_6 mlX6_53 ⟨by decide, by decide⟩ rfl (Nat.le_of_ble_eq_true rfl) ?_
  refine ev_iret dX6_isSoon_9 rfl (by first | rfl | exact ev_nb) ?_
  exact ⟨rfl, rfl⟩
theorem c_X6_isSitter {b : ev_B} {σ : ev_M} {v : Int} (h1 : (-2147483648 ≤ v ∧ v < 2147483648)) (h2 : 0 ≤ σ 47 0 ∧ σ 47 0 ≤ 6) : CF b mX6_isSitter [vR 46, vI v] σ (some (vI (if 0 ≤ v ∧ v ≤ σ 47 0 - 1 then 1 else 0))) σ := by
  refine ev_enter okX6_isSitter.1 (Nat.le_of_ble_eq_true rfl) ?_
  refine ev_iload_n dX6_isSitter_0 rfl ?_
  refine ev_i2l dX6_isSitter_1 (by omega) ?_
  refine ev_lconst (z := 0) dX6_isSitter_2 rfl ?_
  refine ev_aload_n dX6_isSitter_3 rfl ?_
  refine ev_getr 0 dX6_isSitter_4 rfl rfl flX6_7 iwX6 (by decide) rfl ?_
  refine ev_iconst dX6_isSitter_7 ?_
  refine ev_iald dX6_isSitter_8 rfl (by omega) ?_
  refine ev_iconst dX6_isSitter_9 ?_
  refine ev_isub dX6_isSitter_10 ?_
  refine ev_i2l dX6_isSitter_11 (by omega) ?_
  refine ev_S1 (c_X6_in (by omega) (by omega) (by omega)) okX6_in dX6_isSitter_12 mlX6_53 ⟨by decide, by decide⟩ rfl (Nat.le_of_ble_eq_true rfl) ?_
  refine ev_iret dX6_isSitter_15 rfl (by first | rfl | exact ev_nb) ?_
  exact ⟨rfl, rfl⟩
theorem c_X6_isLikeness {b : ev_B} {σ : ev_M} {v : Int} (h1 : (-2147483648 ≤ v ∧ v < 2147483648)) (h2 : 0 ≤ σ 47 1 ∧ σ 47 1 ≤ 8) : CF b mX6_isLikeness [vR 46, vI v] σ (some (vI (if 0 ≤ v ∧ v ≤ σ 47 1 - 1 then 1 else 0))) σ := by
  refine ev_enter okX6_isLikeness.1 (Nat.le_of_ble_eq_true rfl) ?_
  refine ev_iload_n dX6_isLikeness_0 rfl ?_
  refine ev_i2l dX6_isLikeness_1 (by omega) ?_
  refine ev_lconst (z := 0) dX6_isLikeness_2 rfl ?_
  refine ev_aload_n dX6_isLikeness_3 rfl ?_
  refine ev_getr 0 dX6_isLikeness_4 rfl rfl flX6_7 iwX6 (by decide) rfl ?_
  refine ev_iconst dX6_isLikeness_7 ?_
  refine ev_iald dX6_isLikeness_8 rfl (by omega) ?_
  refine ev_iconst dX6_isLikeness_9 ?_
  refine ev_isub dX6_isLikeness_10 ?_
  refine ev_i2l dX6_isLikeness_11 (by omega) ?_
  refine ev_S1 (c_X6_in (by omega) (by omega) (by omega)) okX6_in dX6_isLikeness_12 mlX6_53 ⟨by decide, by decide⟩ rfl (Nat.le_of_ble_eq_true rfl) ?_
  refine ev_iret dX6_isLikeness_15 rfl (by first | rfl | exact ev_nb) ?_
  exact ⟨rfl, rfl⟩
theorem c_X6_finds {b : ev_B} {σ : ev_M} {i : Int} (hi : -1000000007 ≤ i ∧ i ≤ -1000000001) : CF b mX6_finds [vR 46, vI i] σ (some (vI i)) (mup σ 51 (-1000000001 - i) (σ 51 (-1000000001 - i) + 1)) := by
  refine ev_enter okX6_finds.1 (Nat.le_of_ble_eq_true rfl) ?_
  refine ev_aload_n dX6_finds_0 rfl ?_
  refine ev_getr 4 dX6_finds_1 rfl rfl flX6_22 iwX6 (by decide) rfl ?_
  refine ev_ldc (z := -1000000001) dX6_finds_4 kcX6_50 (by decide) ?_
  refine ev_iload_n dX6_finds_6 rfl ?_
  refine ev_isub dX6_finds_7 ?_
  refine ev_dup2 dX6_finds_8 rfl rfl ?_
  refine ev_iald dX6_finds_9 rfl (by omega) ?_
  refine ev_iconst dX6_finds_10 ?_
  refine ev_iadd dX6_finds_11 ?_
  refine ev_iast dX6_finds_12 rfl (by omega) ?_
  refine ev_iload_n dX6_finds_13 rfl ?_
  refine ev_iret dX6_finds_14 rfl rfl ?_
  exact ⟨rfl, rfl⟩
theorem c_X6_becomes {b : ev_B} {σ : ev_M} {i v : Int} (hi : 0 ≤ i ∧ i < 100) : CF b mX6_becomes [vR 46, vI i, vI v] σ (some (vI (σ 47 i))) (mup σ 47 i v) := by
  refine ev_enter okX6_becomes.1 (Nat.le_of_ble_eq_true rfl) ?_
  refine ev_aload_n dX6_becomes_0 rfl ?_
  refine ev_getr 0 dX6_becomes_1 rfl rfl flX6_7 iwX6 (by decide) rfl ?_
  refine ev_iload_n dX6_becomes_4 rfl ?_
  refine ev_iald dX6_becomes_5 rfl (by omega) ?_
  refine ev_istore_n dX6_becomes_6 (by decide) rfl ?_
  refine ev_aload_n dX6_becomes_7 rfl ?_
  refine ev_getr 0 dX6_becomes_8 rfl rfl flX6_7 iwX6 (by decide) rfl ?_
  refine ev_iload_n dX6_becomes_11 rfl ?_
  refine ev_iload_n dX6_becomes_12 rfl ?_
  refine ev_iast dX6_becomes_13 rfl (by omega) ?_
  refine ev_iload_n dX6_becomes_14 rfl ?_
  refine ev_iret dX6_becomes_15 rfl rfl ?_
  exact ⟨rfl, rfl⟩
theorem c_X6_spotOf {b : ev_B} {σ : ev_M} {k w : Int} : CF b mX6_spotOf [vI k, vI w] σ (some (vI (52 + 4 * k + w))) σ := by
  refine ev_enter okX6_spotOf.1 (Nat.le_of_ble_eq_true rfl) ?_
  refine ev_bipush dX6_spotOf_0 (by decide) ?_
  refine ev_iconst dX6_spotOf_2 ?_
  refine ev_iload_n dX6_spotOf_3 rfl ?_
  refine ev_imul dX6_spotOf_4 ?_
  refine ev_iadd dX6_spotOf_5 ?_
  refine ev_iload_n dX6_spotOf_6 rfl ?_
  refine ev_iadd dX6_spotOf_7 ?_
  refine ev_iret dX6_spotOf_8 rfl rfl ?_
  exact ⟨rfl, rfl⟩
theorem c_X6_placeOf {b : ev_B} {σ : ev_M} {k w : Int} : CF b mX6_placeOf [vI k, vI w] σ (some (vI (76 + 3 * k + w))) σ := by
  refine ev_enter okX6_placeOf.1 (Nat.le_of_ble_eq_true rfl) ?_
  refine ev_bipush dX6_placeOf_0 (by decide) ?_
  refine ev_iconst dX6_placeOf_2 ?_
  refine ev_iload_n dX6_placeOf_3 rfl ?_
  refine ev_imul dX6_placeOf_4 ?_
  refine ev_iadd dX6_placeOf_5 ?_
  refine ev_iload_n dX6_placeOf_6 rfl ?_
  refine ev_iadd dX6_placeOf_7 ?_
  refine ev_iret dX6_placeOf_8 rfl rfl ?_
  exact ⟨rfl, rfl⟩
theorem c_X6_its {b : ev_B} {σ : ev_M} {k w : Int} (h : 0 ≤ k ∧ k < 6 ∧ 0 ≤ w ∧ w < 4) : CF b mX6_its [vR 46, vI k, vI w] σ (some (vI (σ 47 (52 + 4 * k + w)))) σ := by
  refine ev_enter okX6_its.1 (Nat.le_of_ble_eq_true rfl) ?_
  refine ev_aload_n dX6_its_0 rfl ?_
  refine ev_getr 0 dX6_its_1 rfl rfl flX6_7 iwX6 (by decide) rfl ?_
  refine ev_iload_n dX6_its_4 rfl ?_
  refine ev_iload_n dX6_its_5 rfl ?_
  refine ev_S1 c_X6_spotOf okX6_spotOf dX6_its_6 mlX6_59 ⟨by decide, by decide⟩ rfl (Nat.le_of_ble_eq_true rfl) ?_
  refine ev_iald dX6_its_9 rfl (by omega) ?_
  refine ev_iret dX6_its_10 rfl rfl ?_
  exact ⟨rfl, rfl⟩
theorem c_X6_likes {b : ev_B} {σ : ev_M} {k w : Int} (h : 0 ≤ k ∧ k < 8 ∧ 0 ≤ w ∧ w < 3) : CF b mX6_likes [vR 46, vI k, vI w] σ (some (vI (σ 47 (76 + 3 * k + w)))) σ := by
  refine ev_enter okX6_likes.1 (Nat.le_of_ble_eq_true rfl) ?_
  refine ev_aload_n dX6_likes_0 rfl ?_
  refine ev_getr 0 dX6_likes_1 rfl rfl flX6_7 iwX6 (by decide) rfl ?_
  refine ev_iload_n dX6_likes_4 rfl ?_
  refine ev_iload_n dX6_likes_5 rfl ?_
  refine ev_S1 c_X6_placeOf okX6_placeOf dX6_likes_6 mlX6_63 ⟨by decide, by decide⟩ rfl (Nat.le_of_ble_eq_true rfl) ?_
  refine ev_iald dX6_likes_9 rfl (by omega) ?_
  refine ev_iret dX6_likes_10 rfl rfl ?_
  exact ⟨rfl, rfl⟩
theorem c_X6_isThere {b : ev_B} {σ : ev_M} {l : Int} (h : 0 ≤ l ∧ l < 8) (ha : 0 ≤ σ 46 6 ∧ σ 46 6 < 256) : CF b mX6_isThere [vR 46, vI l] σ (some (vI (if prA (σ 46 6) l = true then 1 else 0))) σ := by
  refine ev_enter okX6_isThere.1 (Nat.le_of_ble_eq_true rfl) ?_
  have hd := pw_div ha h
  refine ev_aload_n dX6_isThere_0 rfl ?_
  refine ev_geti 6 6 dX6_isThere_1 rfl rfl flX6_66 iwX6 (by decide) rfl rfl ?_
  refine ev_iload_n dX6_isThere_4 rfl ?_
  refine ev_ishr dX6_isThere_5 (bt_shr ha h) ?_
  refine ev_iconst dX6_isThere_6 ?_
  refine ev_iand dX6_isThere_7 (bt_and1 hd) ?_
  refine ev_if_ne (tgt := 15) dX6_isThere_8 (by decide) (by omega) (fun c8 => ?_) (fun c8 => ?_)
  · refine ev_iconst dX6_isThere_15 ?_
    refine ev_iret dX6_isThere_16 rfl (by first | rfl | exact ev_nb) ?_
    exact ⟨by rw [if_neg (by unfold prA; rw [decide_eq_true_eq]; exact c8)], rfl⟩
  · refine ev_iconst dX6_isThere_11 ?_
    refine ev_goto (tgt := 16) dX6_isThere_12 (by decide) ?_
    refine ev_iret dX6_isThere_16 rfl (by first | rfl | exact ev_nb) ?_
    exact ⟨by rw [if_pos (by unfold prA; rw [decide_eq_true_eq]; exact c8)], rfl⟩
theorem c_X6_far {b : ev_B} {σ : ev_M} {a c : Int} (ha : 0 ≤ a ∧ a < 48) (hc : 0 ≤ c ∧ c < 48) : CF b mX6_far [vI a, vI c] σ (some (vI (sp_dist a c))) σ := by
  refine ev_enter okX6_far.1 (Nat.le_of_ble_eq_true rfl) ?_
  refine ev_iload_n dX6_far_0 rfl ?_
  refine ev_bipush dX6_far_1 (by decide) ?_
  refine ev_idiv dX6_far_3 (by omega) (by omega) ?_
  refine ev_iload_n dX6_far_4 rfl ?_
  refine ev_bipush dX6_far_5 (by decide) ?_
  refine ev_idiv dX6_far_7 (by omega) (by omega) ?_
  refine ev_isub dX6_far_8 ?_
  refine ev_istore_n dX6_far_9 (by decide) rfl ?_
  refine ev_iload_n dX6_far_10 rfl ?_
  refine ev_bipush dX6_far_11 (by decide) ?_
  refine ev_irem dX6_far_13 (by omega) (by omega) ?_
  refine ev_iload_n dX6_far_14 rfl ?_
  refine ev_bipush dX6_far_15 (by decide) ?_
  refine ev_irem dX6_far_17 (by omega) (by omega) ?_
  refine ev_isub dX6_far_18 ?_
  refine ev_istore_n dX6_far_19 (by decide) rfl ?_
  refine ev_iload_n dX6_far_20 rfl ?_
  refine ev_if_ge (tgt := 29) dX6_far_21 (by decide) (by omega) (fun c21 => ?_) (fun c21 => ?_)
  · refine ev_iload_n dX6_far_29 rfl ?_
    refine ev_iload_n dX6_far_30 rfl ?_
    refine ev_if_ge (tgt := 39) dX6_far_31 (by decide) (by omega) (fun c31 => ?_) (fun c31 => ?_)
    · refine ev_iload_n dX6_far_39 rfl ?_
      refine ev_iadd dX6_far_40 ?_
      refine ev_iret dX6_far_41 rfl rfl ?_
      exact ⟨by unfold sp_dist sp_abs; congr 2; omega, rfl⟩
    · refine ev_iload_n dX6_far_34 rfl ?_
      refine ev_ineg dX6_far_35 ?_
      refine ev_goto (tgt := 40) dX6_far_36 (by decide) ?_
      refine ev_iadd dX6_far_40 ?_
      refine ev_iret dX6_far_41 rfl rfl ?_
      exact ⟨by unfold sp_dist sp_abs; congr 2; omega, rfl⟩
  · refine ev_iload_n dX6_far_24 rfl ?_
    refine ev_ineg dX6_far_25 ?_
    refine ev_goto (tgt := 30) dX6_far_26 (by decide) ?_
    refine ev_iload_n dX6_far_30 rfl ?_
    refine ev_if_ge (tgt := 39) dX6_far_31 (by decide) (by omega) (fun c31 => ?_) (fun c31 => ?_)
    · refine ev_iload_n dX6_far_39 rfl ?_
      refine ev_iadd dX6_far_40 ?_
      refine ev_iret dX6_far_41 rfl rfl ?_
      exact ⟨by unfold sp_dist sp_abs; congr 2; omega, rfl⟩
    · refine ev_iload_n dX6_far_34 rfl ?_
      refine ev_ineg dX6_far_35 ?_
      refine ev_goto (tgt := 40) dX6_far_36 (by decide) ?_
      refine ev_iadd dX6_far_40 ?_
      refine ev_iret dX6_far_41 rfl rfl ?_
      exact ⟨by unfold sp_dist sp_abs; congr 2; omega, rfl⟩
theorem c_X6_atLeastNothing {b : ev_B} {σ : ev_M} {v : Int} (h : (-2147483648 ≤ v ∧ v < 2147483648)) : CF b mX6_atLeastNothing [vI v] σ (some (vI (max 0 v))) σ := by
  refine ev_enter okX6_atLeastNothing.1 (Nat.le_of_ble_eq_true rfl) ?_
  refine ev_iload_n dX6_atLeastNothing_0 rfl ?_
  refine ev_if_ge (tgt := 8) dX6_atLeastNothing_1 (by decide) (by omega) (fun c1 => ?_) (fun c1 => ?_)
  · refine ev_iload_n dX6_atLeastNothing_8 rfl ?_
    refine ev_iret dX6_atLeastNothing_9 rfl rfl ?_
    exact ⟨by congr 2; omega, rfl⟩
  · refine ev_iconst dX6_atLeastNothing_4 ?_
    refine ev_goto (tgt := 9) dX6_atLeastNothing_5 (by decide) ?_
    refine ev_iret dX6_atLeastNothing_9 rfl rfl ?_
    exact ⟨by congr 2; omega, rfl⟩
theorem c_X6_counts {b : ev_B} {σ : ev_M} {l : Int} (H : okP (wr (σ 47))) (h : 0 ≤ l ∧ l < σ 47 1) : CF b mX6_counts [vR 46, vI l] σ (some (vI (cnt (wr (σ 47)) l))) σ := by
  refine ev_enter okX6_counts.1 (Nat.le_of_ble_eq_true rfl) ?_
  have h0 := okr0 H
  have q := okrl H h
  have q2 := okrs H q.2.1
  have ec : cnt (wr (σ 47)) l = sp_fade (σ 47 (52 + 4 * σ 47 (76 + 3 * l + 1) + 0)) (σ 47 (52 + 4 * σ 47 (76 + 3 * l + 1) + 1)) (σ 47 (76 + 3 * l + 2)) := rfl
  rw [ec]
  generalize hkd : σ 47 (52 + 4 * σ 47 (76 + 3 * l + 1) + 0) = kd at q2 ⊢
  generalize htm : σ 47 (52 + 4 * σ 47 (76 + 3 * l + 1) + 1) = tm at q2 ⊢
  generalize hag : σ 47 (76 + 3 * l + 2) = ag at q ⊢
  have J : ∀ x : Int, x = max 0 (tm - ag / 4) → Ev b mX6_counts 40 [(0, vR 46), (1, vI l), (2, vI (σ 47 (76 + 3 * l + 1))), (3, vI tm), (4, vI ag)] [vI x] σ (fun r' τ' => r' = some (vI (sp_fade kd tm ag)) ∧ τ' = σ) := by
    intro x hx
    refine ev_istore dX6_counts_40 (by decide) rfl ?_
    refine ev_aload_n dX6_counts_42 rfl ?_
    refine ev_iload_n dX6_counts_43 rfl ?_
    refine ev_iconst dX6_counts_44 ?_
    refine ev_V1 (c_X6_its (by omega)) okX6_its dX6_counts_45 mlX6_73 rfl rfl ⟨by decide, by decide⟩ rfl (Nat.le_of_ble_eq_true rfl) ?_
    rw [hkd, hx]
    rcases (show kd = 0 ∨ kd = 1 ∨ kd = 2 ∨ kd = 3 ∨ kd = 4 ∨ kd = 5 by omega) with rfl | rfl | rfl | rfl | rfl | rfl
    · refine ev_tableOut (tgt := 128) dX6_counts_48 (by omega) (by omega) (by decide) ?_
      refine ev_iload dX6_counts_128 rfl ?_
      refine ev_iret dX6_counts_130 rfl rfl ?_
      exact ⟨rfl, rfl⟩
    · refine ev_tableIn (off := 36) (tgt := 84) dX6_counts_48 (by omega) (by omega) (by omega) (by decide) (by decide) ?_
      refine ev_iload dX6_counts_84 rfl ?_
      refine ev_iconst dX6_counts_86 ?_
      refine ev_iadd dX6_counts_87 ?_
      refine ev_iret dX6_counts_88 rfl rfl ?_
      exact ⟨rfl, rfl⟩
    · refine ev_tableIn (off := 41) (tgt := 89) dX6_counts_48 (by omega) (by omega) (by omega) (by decide) (by decide) ?_
      refine ev_iload dX6_counts_89 rfl ?_
      refine ev_iconst dX6_counts_91 ?_
      refine ev_idiv dX6_counts_92 (by omega) (by omega) ?_
      refine ev_iret dX6_counts_93 rfl rfl ?_
      exact ⟨rfl, rfl⟩
    · refine ev_tableIn (off := 46) (tgt := 94) dX6_counts_48 (by omega) (by omega) (by omega) (by decide) (by decide) ?_
      refine ev_iload dX6_counts_94 rfl ?_
      refine ev_sipush dX6_counts_96 (by decide) ?_
      refine ev_icmp_ge (tgt := 106) dX6_counts_99 (by decide) (by omega) (by omega) (fun c99 => ?_) (fun c99 => ?_)
      · refine ev_iconst dX6_counts_106 ?_
        refine ev_iret dX6_counts_107 rfl rfl ?_
        exact ⟨by show some (vI 0) = some (vI (if ag < 365 then tm else 0)); rw [if_neg (by omega)], rfl⟩
      · refine ev_iload_n dX6_counts_102 rfl ?_
        refine ev_goto (tgt := 107) dX6_counts_103 (by decide) ?_
        refine ev_iret dX6_counts_107 rfl rfl ?_
        exact ⟨by show some (vI tm) = some (vI (if ag < 365 then tm else 0)); rw [if_pos (by omega)], rfl⟩
    · refine ev_tableIn (off := 60) (tgt := 108) dX6_counts_48 (by omega) (by omega) (by omega) (by decide) (by decide) ?_
      refine ev_iconst dX6_counts_108 ?_
      refine ev_iload dX6_counts_109 rfl ?_
      refine ev_iconst dX6_counts_111 ?_
      refine ev_idiv dX6_counts_112 (by omega) (by omega) ?_
      refine ev_isub dX6_counts_113 ?_
      refine ev_iret dX6_counts_114 rfl rfl ?_
      exact ⟨by show some (vI _) = some (vI (-(max 0 (tm - ag / 4) / 2))); congr 2; omega, rfl⟩
    · refine ev_tableIn (off := 67) (tgt := 115) dX6_counts_48 (by omega) (by omega) (by omega) (by decide) (by decide) ?_
      refine ev_iload dX6_counts_115 rfl ?_
      refine ev_bipush dX6_counts_117 (by decide) ?_
      refine ev_icmp_ge (tgt := 126) dX6_counts_119 (by decide) (by omega) (by omega) (fun c119 => ?_) (fun c119 => ?_)
      · refine ev_iconst dX6_counts_126 ?_
        refine ev_iret dX6_counts_127 rfl rfl ?_
        exact ⟨by show some (vI 0) = some (vI (if ag < 7 then tm else 0)); rw [if_neg (by omega)], rfl⟩
      · refine ev_iload_n dX6_counts_122 rfl ?_
        refine ev_goto (tgt := 127) dX6_counts_123 (by decide) ?_
        refine ev_iret dX6_counts_127 rfl rfl ?_
        exact ⟨by show some (vI tm) = some (vI (if ag < 7 then tm else 0)); rw [if_pos (by omega)], rfl⟩
  refine ev_aload_n dX6_counts_0 rfl ?_
  refine ev_iload_n dX6_counts_1 rfl ?_
  refine ev_iconst dX6_counts_2 ?_
  refine ev_V1 (c_X6_likes (by omega)) okX6_likes dX6_counts_3 mlX6_70 rfl rfl ⟨by decide, by decide⟩ rfl (Nat.le_of_ble_eq_true rfl) ?_
  refine ev_istore_n dX6_counts_6 (by decide) rfl ?_
  refine ev_aload_n dX6_counts_7 rfl ?_
  refine ev_iload_n dX6_counts_8 rfl ?_
  refine ev_iconst dX6_counts_9 ?_
  refine ev_V1 (c_X6_its (by omega)) okX6_its dX6_counts_10 mlX6_73 rfl rfl ⟨by decide, by decide⟩ rfl (Nat.le_of_ble_eq_true rfl) ?_
  rw [htm]
  refine ev_istore_n dX6_counts_13 (by decide) rfl ?_
  refine ev_aload_n dX6_counts_14 rfl ?_
  refine ev_iload_n dX6_counts_15 rfl ?_
  refine ev_iconst dX6_counts_16 ?_
  refine ev_V1 (c_X6_likes (by omega)) okX6_likes dX6_counts_17 mlX6_70 rfl rfl ⟨by decide, by decide⟩ rfl (Nat.le_of_ble_eq_true rfl) ?_
  rw [hag]
  refine ev_istore dX6_counts_20 (by decide) rfl ?_
  refine ev_iload_n dX6_counts_22 rfl ?_
  refine ev_iload dX6_counts_23 rfl ?_
  refine ev_iconst dX6_counts_25 ?_
  refine ev_idiv dX6_counts_26 (by omega) (by omega) ?_
  refine ev_icmp_le (tgt := 39) dX6_counts_27 (by decide) (by omega) (by omega) (fun c27 => ?_) (fun c27 => ?_)
  · refine ev_iconst dX6_counts_39 ?_
    exact J 0 (by omega)
  · refine ev_iload_n dX6_counts_30 rfl ?_
    refine ev_iload dX6_counts_31 rfl ?_
    refine ev_iconst dX6_counts_33 ?_
    refine ev_idiv dX6_counts_34 (by omega) (by omega) ?_
    refine ev_isub dX6_counts_35 ?_
    refine ev_goto (tgt := 40) dX6_counts_36 (by decide) ?_
    exact J _ (by omega)
theorem c_X6_scared {b : ev_B} {σ : ev_M} {l d : Int} (H : okP (wr (σ 47))) (h : 0 ≤ l ∧ l < σ 47 1) (hd : 0 ≤ d ∧ d ≤ 12) : CF b mX6_scared [vR 46, vI l, vI d] σ (some (vI (scr (wr (σ 47)) l d))) σ := by
  refine ev_enter okX6_scared.1 (Nat.le_of_ble_eq_true rfl) ?_
  have h0 := okr0 H
  have q := okrl H h
  have q2 := okrs H q.2.1
  have ec : scr (wr (σ 47)) l d = sp_scare (σ 47 (52 + 4 * σ 47 (76 + 3 * l + 1) + 0)) (cnt (wr (σ 47)) l) d := rfl
  have cb : -15 ≤ cnt (wr (σ 47)) l ∧ cnt (wr (σ 47)) l ≤ 35 := sp_fade_bd q2.2.1 q.2.2.1
  rw [ec]
  refine ev_aload_n dX6_scared_0 rfl ?_
  refine ev_iload_n dX6_scared_1 rfl ?_
  refine ev_V1 (c_X6_counts H h) okX6_counts dX6_scared_2 mlX6_76 rfl rfl ⟨by decide, by decide⟩ rfl (Nat.le_of_ble_eq_true rfl) ?_
  generalize cnt (wr (σ 47)) l = f at cb ⊢
  refine ev_istore_n dX6_scared_5 (by decide) rfl ?_
  refine ev_iload_n dX6_scared_6 rfl ?_
  refine ev_iconst dX6_scared_7 ?_
  refine ev_iload_n dX6_scared_8 rfl ?_
  refine ev_imul dX6_scared_9 ?_
  refine ev_isub dX6_scared_10 ?_
  refine ev_S1 (c_X6_atLeastNothing (by omega)) okX6_atLeastNothing dX6_scared_11 mlX6_80 ⟨by decide, by decide⟩ rfl (Nat.le_of_ble_eq_true rfl) ?_
  refine ev_istore dX6_scared_14 (by decide) rfl ?_
  refine ev_aload_n dX6_scared_16 rfl ?_
  refine ev_aload_n dX6_scared_17 rfl ?_
  refine ev_iload_n dX6_scared_18 rfl ?_
  refine ev_iconst dX6_scared_19 ?_
  refine ev_V1 (c_X6_likes (by omega)) okX6_likes dX6_scared_20 mlX6_70 rfl rfl ⟨by decide, by decide⟩ rfl (Nat.le_of_ble_eq_true rfl) ?_
  refine ev_iconst dX6_scared_23 ?_
  refine ev_V1 (c_X6_its (by omega)) okX6_its dX6_scared_24 mlX6_73 rfl rfl ⟨by decide, by decide⟩ rfl (Nat.le_of_ble_eq_true rfl) ?_
  generalize hkd : σ 47 (52 + 4 * σ 47 (76 + 3 * l + 1) + 0) = kd at q2 ⊢
  rcases (show kd = 0 ∨ kd = 1 ∨ kd = 2 ∨ kd = 3 ∨ kd = 4 ∨ kd = 5 by omega) with rfl | rfl | rfl | rfl | rfl | rfl
  · refine ev_tableOut (tgt := 108) dX6_scared_27 (by omega) (by omega) (by decide) ?_
    refine ev_iload dX6_scared_108 rfl ?_
    refine ev_iret dX6_scared_110 rfl rfl ?_
    exact ⟨rfl, rfl⟩
  · refine ev_tableIn (off := 33) (tgt := 60) dX6_scared_27 (by omega) (by omega) (by omega) (by decide) (by decide) ?_
    refine ev_iload_n dX6_scared_60 rfl ?_
    refine ev_iload_n dX6_scared_61 rfl ?_
    refine ev_isub dX6_scared_62 ?_
    refine ev_S1 (c_X6_atLeastNothing (by omega)) okX6_atLeastNothing dX6_scared_63 mlX6_80 ⟨by decide, by decide⟩ rfl (Nat.le_of_ble_eq_true rfl) ?_
    refine ev_iret dX6_scared_66 rfl rfl ?_
    exact ⟨rfl, rfl⟩
  · refine ev_tableIn (off := 40) (tgt := 67) dX6_scared_27 (by omega) (by omega) (by omega) (by decide) (by decide) ?_
    refine ev_iload dX6_scared_67 rfl ?_
    refine ev_iconst dX6_scared_69 ?_
    refine ev_isub dX6_scared_70 ?_
    refine ev_S1 (c_X6_atLeastNothing (by omega)) okX6_atLeastNothing dX6_scared_71 mlX6_80 ⟨by decide, by decide⟩ rfl (Nat.le_of_ble_eq_true rfl) ?_
    refine ev_iret dX6_scared_74 rfl rfl ?_
    exact ⟨rfl, rfl⟩
  · refine ev_tableIn (off := 81) (tgt := 108) dX6_scared_27 (by omega) (by omega) (by omega) (by decide) (by decide) ?_
    refine ev_iload dX6_scared_108 rfl ?_
    refine ev_iret dX6_scared_110 rfl rfl ?_
    exact ⟨rfl, rfl⟩
  · refine ev_tableIn (off := 48) (tgt := 75) dX6_scared_27 (by omega) (by omega) (by omega) (by decide) (by decide) ?_
    refine ev_iload_n dX6_scared_75 rfl ?_
    refine ev_iconst dX6_scared_76 ?_
    refine ev_iload_n dX6_scared_77 rfl ?_
    refine ev_imul dX6_scared_78 ?_
    refine ev_iadd dX6_scared_79 ?_
    refine ev_if_ge (tgt := 91) dX6_scared_80 (by decide) (by omega) (fun c80 => ?_) (fun c80 => ?_)
    · refine ev_iconst dX6_scared_91 ?_
      refine ev_iret dX6_scared_92 rfl rfl ?_
      exact ⟨by show some (vI 0) = some (vI (min 0 (f + 2 * d))); congr 2; omega, rfl⟩
    · refine ev_iload_n dX6_scared_83 rfl ?_
      refine ev_iconst dX6_scared_84 ?_
      refine ev_iload_n dX6_scared_85 rfl ?_
      refine ev_imul dX6_scared_86 ?_
      refine ev_iadd dX6_scared_87 ?_
      refine ev_goto (tgt := 92) dX6_scared_88 (by decide) ?_
      refine ev_iret dX6_scared_92 rfl rfl ?_
      exact ⟨by show some (vI _) = some (vI (min 0 (f + 2 * d))); congr 2; omega, rfl⟩
  · refine ev_tableIn (off := 66) (tgt := 93) dX6_scared_27 (by omega) (by omega) (by omega) (by decide) (by decide) ?_
    refine ev_iload_n dX6_scared_93 rfl ?_
    refine ev_iconst dX6_scared_94 ?_
    refine ev_icmp_gt (tgt := 105) dX6_scared_95 (by decide) (by omega) (by omega) (fun c95 => ?_) (fun c95 => ?_)
    · refine ev_iload dX6_scared_105 rfl ?_
      refine ev_iret dX6_scared_107 rfl rfl ?_
      exact ⟨by show some (vI _) = some (vI (if d ≤ 1 then 2 * max 0 (f - 3 * d) else max 0 (f - 3 * d))); rw [if_neg (by omega)], rfl⟩
    · refine ev_iconst dX6_scared_98 ?_
      refine ev_iload dX6_scared_99 rfl ?_
      refine ev_imul dX6_scared_101 ?_
      refine ev_goto (tgt := 107) dX6_scared_102 (by decide) ?_
      refine ev_iret dX6_scared_107 rfl rfl ?_
      exact ⟨by show some (vI _) = some (vI (if d ≤ 1 then 2 * max 0 (f - 3 * d) else max 0 (f - 3 * d))); rw [if_pos (by omega)], rfl⟩
