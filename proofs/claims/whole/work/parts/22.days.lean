/-! days -/
theorem lnd_congr {w w' f f' : Int → Int} : ∀ {n : Nat}, (∀ c : Int, 0 ≤ c ∧ c < n → w c = w' c ∧ f c = f' c) → lnd w f n = lnd w' f' n
  | 0, _ => rfl
  | n + 1, h => by
    have ih := lnd_congr (n := n) (fun c hc => h c (by omega))
    have hn := h n (by omega)
    have hb := lnd_bd w' f' n
    unfold lnd
    rw [ih, hn.1, hn.2]
    by_cases q : lnd w' f' n < 0
    · simp [q]
    · have hc := h (lnd w' f' n) (by omega)
      rw [hc.1, hc.2]
theorem eatc_congr {f f' w : Int → Int} (h : ∀ c : Int, 0 ≤ c ∧ c < 48 → f c = f' c) : ∀ k : Nat, eatc f w k = eatc f' w k
  | 0 => rfl
  | k + 1 => by
    have ih := eatc_congr (w := w) h k
    unfold eatc
    rw [ih, lnd_congr (f := f) (f' := f') (w' := (eatc f' w k).1) (fun c hc => ⟨rfl, h c hc⟩)]
/-- the wheat stays in its bounds; what is eaten is what it loses -/
theorem eatc_ok {f w : Int → Int} (hw : ∀ c : Int, 0 ≤ c ∧ c < 48 → 0 ≤ w c ∧ w c ≤ 99) : ∀ k : Nat, (∀ c : Int, 0 ≤ c ∧ c < 48 → 0 ≤ (eatc f w k).1 c ∧ (eatc f w k).1 c ≤ 99) ∧ 0 ≤ (eatc f w k).2 ∧ (eatc f w k).2 ≤ 2 * k
  | 0 => ⟨hw, by simp [eatc], by simp [eatc]⟩
  | k + 1 => by
    obtain ⟨h1, h2, h3⟩ := eatc_ok (f := f) hw k
    have hb := lnd_bd (eatc f w k).1 f 48
    unfold eatc
    split
    · exact ⟨h1, h2, by omega⟩
    · rename_i q
      have q1 := h1 (lnd (eatc f w k).1 f 48) (by omega)
      refine ⟨fun c hc => ?_, ?_, ?_⟩
      · simp only [upw]
        split
        · omega
        · exact h1 c hc
      · simp only []
        omega
      · simp only []
        omega
theorem eatc_stay {f w : Int → Int} {k : Nat} (h : lnd (eatc f w k).1 f 48 < 0) : ∀ m : Nat, eatc f w (k + m) = eatc f w k
  | 0 => rfl
  | m + 1 => by
    have ih := eatc_stay h m
    rw [← Nat.add_assoc]
    unfold eatc
    rw [ih, if_pos h]
    cases k <;> rfl
theorem okP_day {P : ev_M} {pr : Int → Bool} (H : okP P) : okP (dayM P pr) := by
  obtain ⟨h1, h2, h3, h4, h5, h6, h7⟩ := H
  have e := eatc_ok (f := fear P pr) (w := P 1) h5 (P 0 1).toNat
  refine ⟨h1, ?_, h3, h4, fun c hc => ?_, fun k hk => ?_, fun l hl => ?_⟩
  · show 0 ≤ P 0 2 + 1
    omega
  · exact e.1 c hc
  · have q := h6 k hk
    refine ⟨q.1, ?_, q.2.2⟩
    have hk2 : 0 ≤ k ∧ k < P 0 3 := hk
    have hm := mts_bd P pr k (n := (P 0 8).toNat) (by omega)
    show 0 ≤ (if 0 ≤ k ∧ k < P 0 3 then max 0 (P 3 k - mts P pr k (P 0 8).toNat) else P 3 k) ∧ (if 0 ≤ k ∧ k < P 0 3 then max 0 (P 3 k - mts P pr k (P 0 8).toNat) else P 3 k) ≤ 30
    rw [if_pos hk2]
    omega
  · have q := h7 l hl
    refine ⟨q.1, q.2.1, ?_⟩
    have hl2 : 0 ≤ l ∧ l < P 0 8 := hl
    show 0 ≤ (if 0 ≤ l ∧ l < P 0 8 then min 9999 (P 8 l + 1) else P 8 l) ∧ (if 0 ≤ l ∧ l < P 0 8 then min 9999 (P 8 l + 1) else P 8 l) ≤ 9999
    rw [if_pos hl2]
    omega
theorem dayE_bd {P : ev_M} {pr : Int → Bool} (H : okP P) : 0 ≤ dayE P pr ∧ dayE P pr ≤ 40 := by
  have e := eatc_ok (f := fear P pr) (w := P 1) H.2.2.2.2.1 (P 0 1).toNat
  have h := H.1
  unfold dayE dayW
  omega
/-! what days leave as it is -/
theorem mst_day {P : ev_M} {pr pr' : Int → Bool} {tb : Int → Int → Int} {c k s : Int} : ∀ n : Nat, mst (dayM P pr) pr' tb c k s n = mst P pr' tb c k s n
  | 0 => rfl
  | n + 1 => by
    unfold mst
    rw [mst_day n]
    rfl
theorem fearT_day {P : ev_M} {pr pr' : Int → Bool} {tb : Int → Int → Int} {c s : Int} : fearT (dayM P pr) pr' tb s c = fearT P pr' tb s c := by
  unfold fearT
  show sm _ (P 0 3).toNat = sm _ (P 0 3).toNat
  apply sm_congr
  intro i _
  show (if mst (dayM P pr) pr' tb c i s (P 0 8).toNat = s then 0 else mst (dayM P pr) pr' tb c i s (P 0 8).toNat) = _
  rw [mst_day]
theorem mts_day {P : ev_M} {pr pr' : Int → Bool} {k : Int} {n : Nat} : mts (dayM P pr) pr' k n = mts P pr' k n := rfl
/-! the class's rows -/
def srow (σ : ev_M) (a : Nat) (w : Int → Int) : ev_M := fun k j => if k = a then w j else σ k j
theorem srow_at {σ : ev_M} {a : Nat} {w : Int → Int} : srow σ a w a = w := by funext j; simp [srow]
theorem srow_ne {σ : ev_M} {a k : Nat} {w : Int → Int} (h : k ≠ a) : srow σ a w k = σ k := by funext j; simp [srow, h]
theorem srow_up {σ : ev_M} {a : Nat} {w : Int → Int} {c v : Int} : mup (srow σ a w) a c v = srow σ a (upw w c v) := by
  funext k j
  simp only [mup, srow, upw]
  by_cases h : k = a
  · subst h
    by_cases h2 : j = c <;> simp [h2]
  · simp [h]
theorem srow_self {σ : ev_M} {a : Nat} : srow σ a (σ a) = σ := by
  funext k j
  simp only [srow]
  split
  · rename_i h; rw [h]
  · rfl
/-- sitters below i, likenesses below l have grown older -/
def gro (σ : ev_M) (p : Nat) (i l : Int) : ev_M := fun a j => if a = p + 3 ∧ 0 ≤ j ∧ j < i then max 0 (σ (p + 3) j - σ 33 j) else if a = p + 8 ∧ 0 ≤ j ∧ j < l then min 9999 (σ (p + 8) j + 1) else σ a j
theorem gro_3 {σ : ev_M} {p : Nat} {i l j : Int} (h : ¬ (0 ≤ j ∧ j < i)) : gro σ p i l (p + 3) j = σ (p + 3) j := by
  unfold gro; rw [if_neg (fun q => h q.2), if_neg (by omega)]
theorem gro_8 {σ : ev_M} {p : Nat} {i l j : Int} (h : ¬ (0 ≤ j ∧ j < l)) : gro σ p i l (p + 8) j = σ (p + 8) j := by
  unfold gro; rw [if_neg (by omega), if_neg (fun q => h q.2)]
theorem gro_ne {σ : ev_M} {p a : Nat} {i l : Int} (h : a ≠ p + 3) (h2 : a ≠ p + 8) : gro σ p i l a = σ a := by
  funext j; unfold gro; rw [if_neg (fun q => h q.1), if_neg (fun q => h2 q.1)]
theorem gro_s {σ : ev_M} {p : Nat} {i : Int} (hi : 0 ≤ i) : mup (gro σ p i 0) (p + 3) i (max 0 (σ (p + 3) i - σ 33 i)) = gro σ p (i + 1) 0 := by
  funext a j
  rw [mup]
  unfold gro
  by_cases h : a = p + 3 ∧ j = i
  · obtain ⟨rfl, rfl⟩ := h
    rw [if_pos ⟨rfl, rfl⟩, if_pos (by omega)]
  · rw [if_neg h]
    by_cases h2 : a = p + 3 ∧ 0 ≤ j ∧ j < i
    · rw [if_pos h2, if_pos (by omega)]
    · rw [if_neg h2, if_neg (by omega), if_neg (by omega)]
theorem gro_l {σ : ev_M} {p : Nat} {i l : Int} (hi : 0 ≤ l) : mup (gro σ p i l) (p + 8) l (min 9999 (σ (p + 8) l + 1)) = gro σ p i (l + 1) := by
  funext a j
  rw [mup]
  unfold gro
  by_cases h : a = p + 8 ∧ j = l
  · obtain ⟨rfl, rfl⟩ := h
    rw [if_pos ⟨rfl, rfl⟩, if_neg (by omega), if_pos (by omega)]
  · rw [if_neg h]
    by_cases h0 : a = p + 3 ∧ 0 ≤ j ∧ j < i
    · rw [if_pos h0, if_pos h0]
    · rw [if_neg h0, if_neg h0]
      by_cases h2 : a = p + 8 ∧ 0 ≤ j ∧ j < l
      · rw [if_pos h2, if_pos (by omega)]
      · rw [if_neg h2, if_neg (by omega)]
theorem c_X0_growOlder {b : ev_B} {σ : ev_M} {p : Nat} (hp : isP p) (H : okP (wn σ p)) (hm : ∀ k : Int, 0 ≤ k ∧ k < σ p 3 → 0 ≤ σ 33 k ∧ σ 33 k ≤ 64) : CF b mX0_growOlder [vR 28, vR p] σ none (mup (gro σ p (σ p 3) (σ p 8)) p 2 (σ p 2 + 1)) := by
  refine ev_enter okX0_growOlder.1 (Nat.le_of_ble_eq_true rfl) ?_
  have h0 := ok0 H
  have hpb : p ≤ 19 := by rcases hp with rfl | rfl | rfl <;> omega
  obtain ⟨n, hn, hn2⟩ := nn_ex h0.2.2.2.1
  obtain ⟨ns, hns, hns2⟩ := nn_ex h0.2.2.1.1
  have loop2 : ∀ (m i : Nat), i + m = n → Ev b mX0_growOlder 41 [(0, vR 28), (1, vR p), (2, vI i)] [] (gro σ p ns i) (fun r' τ' => r' = none ∧ τ' = mup (gro σ p (σ p 3) (σ p 8)) p 2 (σ p 2 + 1)) := by
    intro m
    induction m with
    | zero =>
      intro i h
      have e8 : gro σ p ns i p 8 = σ p 8 := by rw [gro_ne (by omega) (by omega)]
      have e2 : gro σ p ns i p 2 = σ p 2 := by rw [gro_ne (by omega) (by omega)]
      refine ev_iload_n dX0_growOlder_41 rfl ?_
      refine ev_aload_n dX0_growOlder_42 rfl ?_
      refine ev_geti 8 8 dX0_growOlder_43 (pk0 hp) rfl flX0_27 iwX2 (by decide) rfl rfl ?_
      refine ev_icmp_ge (tgt := 75) dX0_growOlder_46 (by decide) (by omega) (by omega) (fun c46 => ?_) (fun c46 => ?_)
      · refine ev_aload_n dX0_growOlder_75 rfl ?_
        refine ev_dup dX0_growOlder_76 rfl ?_
        refine ev_geti 2 2 dX0_growOlder_77 (pk0 hp) rfl flX0_117 iwX2 (by decide) rfl rfl ?_
        rw [e2]
        refine ev_iconst dX0_growOlder_80 ?_
        refine ev_iadd dX0_growOlder_81 ?_
        refine ev_put (ty := .int) 2 2 dX0_growOlder_82 (pk0 hp) rfl flX0_117 iwX2 tyX2_ok nmX2 (by decide) rfl rfl (by decide +kernel) rfl rfl rfl ?_
        refine ev_vret dX0_growOlder_85 rfl ?_
        have e : i = n := by omega
        subst e
        rw [hn, hns]
        exact ⟨rfl, rfl⟩
      · exact absurd c46 (by omega)
    | succ m ih =>
      intro i h
      have q := okl H (l := i) (by omega)
      have e8 : gro σ p ns i p 8 = σ p 8 := by rw [gro_ne (by omega) (by omega)]
      refine ev_iload_n dX0_growOlder_41 rfl ?_
      refine ev_aload_n dX0_growOlder_42 rfl ?_
      refine ev_geti 8 8 dX0_growOlder_43 (pk0 hp) rfl flX0_27 iwX2 (by decide) rfl rfl ?_
      refine ev_icmp_ge (tgt := 75) dX0_growOlder_46 (by decide) (by omega) (by omega) (fun c46 => ?_) (fun c46 => ?_)
      · exact absurd c46 (by omega)
      · refine ev_aload_n dX0_growOlder_49 rfl ?_
        refine ev_getr 11 dX0_growOlder_50 (pk0 hp) rfl flX0_114 iwX2 (by decide) rfl ?_
        refine ev_iload_n dX0_growOlder_53 rfl ?_
        refine ev_sipush dX0_growOlder_54 (by decide) ?_
        refine ev_aload_n dX0_growOlder_57 rfl ?_
        refine ev_getr 11 dX0_growOlder_58 (pk0 hp) rfl flX0_114 iwX2 (by decide) rfl ?_
        refine ev_iload_n dX0_growOlder_61 rfl ?_
        refine ev_iald dX0_growOlder_62 (pk8 hp) (by omega) ?_
        rw [gro_8 (by omega)]
        refine ev_iconst dX0_growOlder_63 ?_
        refine ev_iadd dX0_growOlder_64 ?_
        refine ev_mmin dX0_growOlder_65 mlX0_70 ma_min (by omega) (by omega) ⟨by decide, Nat.le_of_ble_eq_true rfl⟩ ?_
        refine ev_iast dX0_growOlder_68 (pk8 hp) (by omega) ?_
        refine ev_iinc dX0_growOlder_69 rfl (by decide) rfl ?_
        refine ev_goto (tgt := 41) dX0_growOlder_72 (by decide) ?_
        rw [gro_l (by omega)]
        exact ih (i + 1) (by omega)
  have loop : ∀ (m i : Nat), i + m = ns → Ev b mX0_growOlder 2 [(0, vR 28), (1, vR p), (2, vI i)] [] (gro σ p i 0) (fun r' τ' => r' = none ∧ τ' = mup (gro σ p (σ p 3) (σ p 8)) p 2 (σ p 2 + 1)) := by
    intro m
    induction m with
    | zero =>
      intro i h
      have e3 : gro σ p i 0 p 3 = σ p 3 := by rw [gro_ne (by omega) (by omega)]
      refine ev_iload_n dX0_growOlder_2 rfl ?_
      refine ev_aload_n dX0_growOlder_3 rfl ?_
      refine ev_geti 3 3 dX0_growOlder_4 (pk0 hp) rfl flX0_41 iwX2 (by decide) rfl rfl ?_
      refine ev_icmp_ge (tgt := 39) dX0_growOlder_7 (by decide) (by omega) (by omega) (fun c7 => ?_) (fun c7 => ?_)
      · refine ev_iconst dX0_growOlder_39 ?_
        refine ev_istore_n dX0_growOlder_40 (by decide) rfl ?_
        have e : i = ns := by omega
        subst e
        exact loop2 n 0 (by omega)
      · exact absurd c7 (by omega)
    | succ m ih =>
      intro i h
      have q := oks H (k := i) (by omega)
      have qm := hm i (by omega)
      have e3 : gro σ p i 0 p 3 = σ p 3 := by rw [gro_ne (by omega) (by omega)]
      have e33 : gro σ p i 0 33 i = σ 33 i := by rw [gro_ne (by omega) (by omega)]
      refine ev_iload_n dX0_growOlder_2 rfl ?_
      refine ev_aload_n dX0_growOlder_3 rfl ?_
      refine ev_geti 3 3 dX0_growOlder_4 (pk0 hp) rfl flX0_41 iwX2 (by decide) rfl rfl ?_
      refine ev_icmp_ge (tgt := 39) dX0_growOlder_7 (by decide) (by omega) (by omega) (fun c7 => ?_) (fun c7 => ?_)
      · exact absurd c7 (by omega)
      · refine ev_aload_n dX0_growOlder_10 rfl ?_
        refine ev_getr 5 dX0_growOlder_11 (pk0 hp) rfl flX0_111 iwX2 (by decide) rfl ?_
        refine ev_iload_n dX0_growOlder_14 rfl ?_
        refine ev_iconst dX0_growOlder_15 ?_
        refine ev_aload_n dX0_growOlder_16 rfl ?_
        refine ev_getr 5 dX0_growOlder_17 (pk0 hp) rfl flX0_111 iwX2 (by decide) rfl ?_
        refine ev_iload_n dX0_growOlder_20 rfl ?_
        refine ev_iald dX0_growOlder_21 (pk3 hp) (by omega) ?_
        refine ev_aload_n dX0_growOlder_22 rfl ?_
        refine ev_getr 4 dX0_growOlder_23 rfl rfl flX0_24 iwX0 (by decide) rfl ?_
        refine ev_iload_n dX0_growOlder_26 rfl ?_
        refine ev_iald dX0_growOlder_27 rfl (by omega) ?_
        rw [gro_3 (by omega), e33]
        refine ev_isub dX0_growOlder_28 ?_
        refine ev_mmax dX0_growOlder_29 mlX0_108 ma_max (by omega) (by omega) ⟨by decide, Nat.le_of_ble_eq_true rfl⟩ ?_
        refine ev_iast dX0_growOlder_32 (pk3 hp) (by omega) ?_
        refine ev_iinc dX0_growOlder_33 rfl (by decide) rfl ?_
        refine ev_goto (tgt := 2) dX0_growOlder_36 (by decide) ?_
        rw [gro_s (by omega)]
        exact ih (i + 1) (by omega)
  refine ev_iconst dX0_growOlder_0 ?_
  refine ev_istore_n dX0_growOlder_1 (by decide) rfl ?_
  have e : gro σ p 0 0 = σ := by
    funext a j
    unfold gro
    rw [if_neg (by omega), if_neg (by omega)]
  have l := loop ns 0 (by omega)
  rw [show ((0 : Nat) : Int) = 0 from rfl, e] at l
  exact l
theorem c_X0_look {b : ev_B} {σ : ev_M} {p : Nat} (hp : isP p) (H : okP (wn σ p)) : Cl b mX0_look [vR 28, vR p] σ (fun r τ => r = none ∧ FO τ p ∧ (∀ l : Int, 0 ≤ l ∧ l < τ p 8 → τ 30 l = cnt (wn τ p) l) ∧ ∀ a : Nat, a < 28 ∨ 33 < a → τ a = σ a) := by
  refine ev_enter okX0_look.1 (Nat.le_of_ble_eq_true rfl) ?_
  have h0 := ok0 H
  have hpb : p ≤ 19 := by rcases hp with rfl | rfl | rfl <;> omega
  obtain ⟨n, hn, hn2⟩ := nn_ex h0.2.2.2.1
  obtain ⟨ns, hns, hns2⟩ := nn_ex h0.2.2.1.1
  have loop2 : ∀ (m i : Nat) (τ : ev_M), i + m = ns → (∃ υ, tkn σ υ p n ∧ (∀ a : Nat, a ≠ 33 → τ a = υ a)) → (∀ k : Int, 0 ≤ k ∧ k < i → τ 33 k = mts (wn σ p) allp k n) → Ev b mX0_look 29 [(0, vR 28), (1, vR p), (2, vI i)] [] τ (fun r τ => r = none ∧ FO τ p ∧ (∀ l : Int, 0 ≤ l ∧ l < τ p 8 → τ 30 l = cnt (wn τ p) l) ∧ ∀ a : Nat, a < 28 ∨ 33 < a → τ a = σ a) := by
    intro m
    induction m with
    | zero =>
      intro i τ h hυ f2
      obtain ⟨υ, ht, f1⟩ := hυ
      have e : i = ns := by omega
      subst e
      have a1 : ∀ a : Nat, a ≠ 30 → a ≠ 31 → a ≠ 33 → τ a = σ a := fun a h30 h31 h33 => by rw [f1 a h33, ht.1 a h30 h31]
      have ew : wn τ p = wn σ p := wn_congr (fun j hj => a1 (p + j) (by omega) (by omega) (by omega))
      have e3 : τ p 3 = σ p 3 := by rw [a1 p (by omega) (by omega) (by omega)]
      have e8 : τ p 8 = σ p 8 := by rw [a1 p (by omega) (by omega) (by omega)]
      have hrow : ∀ l : Int, 0 ≤ l ∧ l < τ p 8 → (-15 ≤ τ 30 l ∧ τ 30 l ≤ 35) ∧ ∀ d : Int, 0 ≤ d ∧ d < 13 → tbl τ l d = sp_scare (τ (p + 2) (τ (p + 7) l)) (τ 30 l) d := by
        intro l hl
        have q := ht.2.1 l (by omega)
        have cb := cnt_bd H (l := l) (by omega)
        have e30 : τ 30 l = cnt (wn σ p) l := by rw [f1 30 (by omega)]; exact q.1
        refine ⟨by omega, fun d hd => ?_⟩
        rw [e30, a1 (p + 2) (by omega) (by omega) (by omega), a1 (p + 7) (by omega) (by omega) (by omega), ← q.2 d hd]
        unfold tbl
        rw [f1 31 (by omega)]
      refine ev_iload_n dX0_look_29 rfl ?_
      refine ev_aload_n dX0_look_30 rfl ?_
      refine ev_geti 3 3 dX0_look_31 (pk0 hp) rfl flX0_41 iwX2 (by decide) rfl rfl ?_
      refine ev_icmp_ge (tgt := 54) dX0_look_34 (by decide) (by omega) (by omega) (fun c34 => ?_) (fun c34 => ?_)
      · refine ev_aload_n dX0_look_54 rfl ?_
        refine ev_aload_n dX0_look_55 rfl ?_
        refine ev_callV (c_X0_weighFears hp (by rw [ew]; exact H) (FO_tbl hrow)) okX0_weighFears dX0_look_56 mlX0_46 rfl rfl ⟨by decide, by decide⟩ rfl (Nat.le_of_ble_eq_true rfl) (fun r56 τ56 h56 => ?_)
        obtain ⟨rfl, g1, g2⟩ := h56
        refine ev_vret dX0_look_59 rfl ?_
        have ew2 : wn τ56 p = wn τ p := wn_congr (fun j hj => g2 (p + j) (by omega) (by omega))
        have et2 : tbl τ56 = tbl τ := by unfold tbl; rw [g2 31 (by omega) (by omega)]
        have b8 : τ56 p 8 = τ p 8 := by rw [g2 p (by omega) (by omega)]
        have b3 : τ56 p 3 = τ p 3 := by rw [g2 p (by omega) (by omega)]
        refine ⟨rfl, ⟨fun l hl => ?_, fun c hc => ?_, fun k hk => ?_⟩, fun l hl => ?_, fun a ha => ?_⟩
        · rw [et2, g2 30 (by omega) (by omega), g2 (p + 2) (by omega) (by omega), g2 (p + 7) (by omega) (by omega)]
          exact hrow l (by omega)
        · rw [ew2, et2]
          exact g1 c hc
        · rw [g2 33 (by omega) (by omega), ew2, b8, ew, e8, hn2]
          exact f2 k (by omega)
        · rw [g2 30 (by omega) (by omega), f1 30 (by omega), ew2, ew]
          exact (ht.2.1 l (by omega)).1
        · rw [g2 a (by omega) (by omega)]
          exact a1 a (by omega) (by omega) (by omega)
      · exact absurd c34 (by omega)
    | succ m ih =>
      intro i τ h hυ f2
      obtain ⟨υ, ht, f1⟩ := hυ
      have a1 : ∀ a : Nat, a ≠ 30 → a ≠ 31 → a ≠ 33 → τ a = σ a := fun a h30 h31 h33 => by rw [f1 a h33, ht.1 a h30 h31]
      have ew : wn τ p = wn σ p := wn_congr (fun j hj => a1 (p + j) (by omega) (by omega) (by omega))
      have e3 : τ p 3 = σ p 3 := by rw [a1 p (by omega) (by omega) (by omega)]
      have e8 : τ p 8 = σ p 8 := by rw [a1 p (by omega) (by omega) (by omega)]
      refine ev_iload_n dX0_look_29 rfl ?_
      refine ev_aload_n dX0_look_30 rfl ?_
      refine ev_geti 3 3 dX0_look_31 (pk0 hp) rfl flX0_41 iwX2 (by decide) rfl rfl ?_
      refine ev_icmp_ge (tgt := 54) dX0_look_34 (by decide) (by omega) (by omega) (fun c34 => ?_) (fun c34 => ?_)
      · exact absurd c34 (by omega)
      · refine ev_aload_n dX0_look_37 rfl ?_
        refine ev_getr 4 dX0_look_38 rfl rfl flX0_24 iwX0 (by decide) rfl ?_
        refine ev_iload_n dX0_look_41 rfl ?_
        refine ev_aload_n dX0_look_42 rfl ?_
        refine ev_iload_n dX0_look_43 rfl ?_
        refine ev_V1 (c_X2_meetings hp (by rw [ew]; exact H) (by omega)) okX2_meetings dX0_look_44 mlX0_44 (pk0 hp) rfl ⟨by decide, by decide⟩ rfl (Nat.le_of_ble_eq_true rfl) ?_
        rw [ew, e8, hn2]
        refine ev_iast dX0_look_47 rfl (by omega) ?_
        refine ev_iinc dX0_look_48 rfl (by decide) rfl ?_
        refine ev_goto (tgt := 29) dX0_look_51 (by decide) ?_
        refine ih (i + 1) _ (by omega) ⟨υ, ht, fun a ha => ?_⟩ (fun k hk => ?_)
        · rw [fr1 ha]; exact f1 a ha
        · by_cases hki : k = i
          · subst hki
            simp (disch := omega) only [mr1, mr2, mr3, cr1, cr2, cr3]
          · simp (disch := omega) only [mr1, mr2, mr3, cr1, cr2, cr3]
            exact f2 k (by omega)
  have loop : ∀ (m i : Nat) (τ : ev_M), i + m = n → tkn σ τ p i → Ev b mX0_look 2 [(0, vR 28), (1, vR p), (2, vI i)] [] τ (fun r τ => r = none ∧ FO τ p ∧ (∀ l : Int, 0 ≤ l ∧ l < τ p 8 → τ 30 l = cnt (wn τ p) l) ∧ ∀ a : Nat, a < 28 ∨ 33 < a → τ a = σ a) := by
    intro m
    induction m with
    | zero =>
      intro i τ h ht
      have e8 : τ p 8 = σ p 8 := by rw [ht.1 p (by omega) (by omega)]
      refine ev_iload_n dX0_look_2 rfl ?_
      refine ev_aload_n dX0_look_3 rfl ?_
      refine ev_geti 8 8 dX0_look_4 (pk0 hp) rfl flX0_27 iwX2 (by decide) rfl rfl ?_
      refine ev_icmp_ge (tgt := 27) dX0_look_7 (by decide) (by omega) (by omega) (fun c7 => ?_) (fun c7 => ?_)
      · refine ev_iconst dX0_look_27 ?_
        refine ev_istore_n dX0_look_28 (by decide) rfl ?_
        have e : i = n := by omega
        subst e
        exact loop2 ns 0 τ (by omega) ⟨τ, ht, fun _ _ => rfl⟩ (fun k hk => absurd hk (by omega))
      · exact absurd c7 (by omega)
    | succ m ih =>
      intro i τ h ht
      have e8 : τ p 8 = σ p 8 := by rw [ht.1 p (by omega) (by omega)]
      have ew := tkn_wn hp ht
      have cb := cnt_bd H (l := i) (by omega)
      have ek : τ (p + 2) (τ (p + 7) i) = σ (p + 2) (σ (p + 7) i) := by rw [ht.1 (p + 2) (by omega) (by omega), ht.1 (p + 7) (by omega) (by omega)]
      refine ev_iload_n dX0_look_2 rfl ?_
      refine ev_aload_n dX0_look_3 rfl ?_
      refine ev_geti 8 8 dX0_look_4 (pk0 hp) rfl flX0_27 iwX2 (by decide) rfl rfl ?_
      refine ev_icmp_ge (tgt := 27) dX0_look_7 (by decide) (by omega) (by omega) (fun c7 => ?_) (fun c7 => ?_)
      · exact absurd c7 (by omega)
      · refine ev_aload_n dX0_look_10 rfl ?_
        refine ev_aload_n dX0_look_11 rfl ?_
        refine ev_iload_n dX0_look_12 rfl ?_
        refine ev_aload_n dX0_look_13 rfl ?_
        refine ev_iload_n dX0_look_14 rfl ?_
        refine ev_V1 (c_X2_countsFor hp (by rw [ew]; exact H) (by omega)) okX2_countsFor dX0_look_15 mlX0_33 (pk0 hp) rfl ⟨by decide, by decide⟩ rfl (Nat.le_of_ble_eq_true rfl) ?_
        rw [ew]
        refine ev_V0 (c_X0_takeScares hp (by rw [ew]; exact H) (by omega) (by omega)) okX0_takeScares dX0_look_18 mlX0_37 rfl rfl ⟨by decide, by decide⟩ rfl (Nat.le_of_ble_eq_true rfl) ?_
        refine ev_iinc dX0_look_21 rfl (by decide) rfl ?_
        refine ev_goto (tgt := 2) dX0_look_24 (by decide) ?_
        rw [ek]
        exact ih (i + 1) _ (by omega) (tkn_take ht (by omega))
  refine ev_iconst dX0_look_0 ?_
  refine ev_istore_n dX0_look_1 (by decide) rfl ?_
  exact loop n 0 σ (by omega) ⟨fun _ _ _ => rfl, fun l hl => absurd hl (by omega), fun l hl => ⟨rfl, fun _ _ => rfl⟩⟩
