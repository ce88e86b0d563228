/-! the model's plain -/
theorem tk0 {B : Int → Int} {L s : Int} : (tkAt B L s).1 = 0 ↔ L ≤ s := by
  unfold tkAt
  by_cases z : L ≤ s
  · rw [if_pos z]; exact ⟨fun _ => z, fun _ => rfl⟩
  · rw [if_neg z]
    refine ⟨fun h => ?_, fun h => absurd h z⟩
    repeat' split at h
    all_goals simp at h
theorem tk3 {B : Int → Int} {L s : Int} : (tkAt B L s).1 = 3 ↔ bAt B L s = 59 := by
  unfold tkAt bAt
  by_cases z : L ≤ s
  · rw [if_pos z, if_neg (show ¬ s < L by omega)]
    exact ⟨fun h => by simp at h, fun h => absurd h (by decide)⟩
  · rw [if_neg z, if_pos (show s < L by omega)]
    by_cases z1 : isLt (B s) = true
    · rw [if_pos z1]
      refine ⟨fun h => by simp at h, fun h => ?_⟩
      unfold isLt at z1
      rw [decide_eq_true_eq] at z1
      omega
    · rw [if_neg z1]
      by_cases z2 : isDg (B s) = true
      · rw [if_pos z2]
        refine ⟨fun h => by simp at h, fun h => ?_⟩
        unfold isDg at z2
        rw [decide_eq_true_eq] at z2
        omega
      · rw [if_neg z2]
        by_cases z3 : B s = 59
        · rw [if_pos z3]; exact ⟨fun _ => z3, fun _ => rfl⟩
        · rw [if_neg z3]; exact ⟨fun h => by simp at h, fun h => absurd h z3⟩
/-- a token within L -/
def gdT (L : Int) (t : Tk) : Prop := 0 ≤ t.2.1 ∧ t.2.1 ≤ t.2.2 ∧ t.2.2 ≤ L
theorem gdT_x {B : Int → Int} {L : Int} {t : Tk} (h : gdT L t) : gdT L (tkx B L t) ∧ t.2.2 ≤ (tkx B L t).2.1 := by
  obtain ⟨h1, h2, h3⟩ := h
  have q := tk_bd (B := B) (L := L) (p := t.2.2) (by omega)
  unfold gdT tkx
  omega
theorem wd_lt {B : Int → Int} {t : Tk} {j : Nat} (hj : j < 13) (h : wd B t j = true) : t.2.1 < t.2.2 := by
  have w := (wln_bd j hj).1
  unfold wd at h
  rw [Bool.and_eq_true, decide_eq_true_eq] at h
  have := h.1.2
  omega
theorem kdF_lt {B : Int → Int} {t : Tk} : ∀ (m k : Nat), k + m ≤ 6 → 0 ≤ kdF B t m k → t.2.1 < t.2.2
  | 0, k, _, h => by simp [kdF] at h
  | m + 1, k, hk, h => by
    unfold kdF at h
    by_cases w : wd B t k = true
    · exact wd_lt (by omega) w
    · rw [if_neg w] at h
      exact kdF_lt m (k + 1) (by omega) h
theorem itFee_mo {B : Int → Int} {L : Int} {P P' : ev_M} {s : Int} {t t' : Tk} (g : gdT L t) (h : itFee B L P s t = .inr (t', P')) : gdT L t' ∧ t.2.1 ≤ t'.2.1 := by
  have g1 := gdT_x (B := B) g
  have g2 := gdT_x (B := B) g1.1
  have a := g
  have b1 := g1.1
  unfold gdT at a b1
  unfold itFee at h
  split at h
  · split at h
    · cases h; exact ⟨g2.1, by omega⟩
    · cases h
  · cases h; exact ⟨g, by omega⟩
theorem itTem_mo {B : Int → Int} {L : Int} {P P' : ev_M} {s : Int} {t t' : Tk} (g : gdT L t) (h : itTem B L P s t = .inr (t', P')) : gdT L t' ∧ t.2.1 ≤ t'.2.1 := by
  have g1 := gdT_x (B := B) g
  have g2 := gdT_x (B := B) g1.1
  have a := g
  have b1 := g1.1
  unfold gdT at a b1
  unfold itTem at h
  split at h
  · split at h
    · have q := itFee_mo g2.1 h
      exact ⟨q.1, by omega⟩
    · cases h
  · exact itFee_mo g h
theorem itm_mo {B : Int → Int} {L : Int} {P P' : ev_M} {t t' : Tk} (g : gdT L t) (h : itm B L P t = .inr (t', P')) : gdT L t' ∧ t.2.1 < t'.2.1 := by
  have g1 := gdT_x (B := B) g
  have g2 := gdT_x (B := B) g1.1
  have g3 := gdT_x (B := B) g2.1
  have g4 := gdT_x (B := B) g3.1
  have g5 := gdT_x (B := B) g4.1
  have a := g
  have b1 := g1.1
  have b2 := g2.1
  have b3 := g3.1
  have b4 := g4.1
  have b5 := g5.1
  unfold gdT at a b1 b2 b3 b4 b5
  unfold itm at h
  split at h
  · rename_i hk
    have q := kdF_lt 6 0 (by omega) hk
    unfold itSit at h
    split at h
    · have q2 := itTem_mo g1.1 h
      exact ⟨q2.1, by omega⟩
    · cases h
  · split at h
    · rename_i hw
      have q := wd_lt (by decide) hw
      unfold itLik itLi2 at h
      split at h
      · split at h
        · split at h
          · split at h
            · cases h; exact ⟨g4.1, by omega⟩
            · cases h
          · cases h
        · cases h
      · cases h
    · split at h
      · rename_i hw
        have q := wd_lt (by decide) hw
        unfold itWht itWh1 itWh2 at h
        split at h
        · split at h
          · split at h
            · split at h
              · cases h; exact ⟨g5.1, by omega⟩
              · cases h
            · cases h; exact ⟨g3.1, by omega⟩
          · cases h
        · cases h
      · split at h
        · rename_i hw
          have q := wd_lt (by decide) hw
          unfold itCrw at h
          split at h
          · cases h; exact ⟨g2.1, by omega⟩
          · cases h
        · cases h
/-- behind an item -/
def nxt (B : Int → Int) (L : Int) (n : Nat) (k : Int) : Rs → Int ⊕ (Int × ev_M)
  | .inl x => .inl x
  | .inr (t', P') => if t'.1 = 0 then .inr (k, P') else if t'.1 = 3 then prs B L n P' (tkx B L t') (k + 1) else .inl t'.2.1
theorem prs_nxt {B : Int → Int} {L : Int} {n : Nat} {P : ev_M} {t : Tk} {k : Int} : prs B L (n + 1) P t k = nxt B L n k (itm B L P t) := by
  unfold prs nxt
  rfl
def ST (τ : ev_M) : Rs → Prop
  | .inl x => WR τ x
  | .inr (t, P) => LR τ t ∧ eqP (wr (τ 47)) P ∧ okP P
theorem IR_ST {σ τ P : ev_M} {t : Tk} (e : eqP (wr (σ 47)) P) (H : okP P) (h : IR σ (itm (σ 55) (σ 46 11) (wr (σ 47)) t) τ) : frI σ τ ∧ ST τ (itm (σ 55) (σ 46 11) P t) := by
  obtain ⟨h1, h2, h3⟩ := h
  refine ⟨⟨h1, h2⟩, ?_⟩
  have q := itm_rel (B := σ 55) (L := σ 46 11) (t := t) e H
  match h1 : itm (σ 55) (σ 46 11) (wr (σ 47)) t, h2 : itm (σ 55) (σ 46 11) P t with
  | .inl x, .inl y => rw [h1, h2] at q; rw [h1] at h3; obtain rfl : x = y := q; exact h3
  | .inl x, .inr y => rw [h1, h2] at q; exact q.elim
  | .inr x, .inl y => rw [h1, h2] at q; exact q.elim
  | .inr (t', Q'), .inr (t2, Q) =>
    rw [h1, h2] at q
    rw [h1] at h3
    obtain ⟨rfl, q2, q3⟩ := q
    exact ⟨h3.1, eqP_trans h3.2 q2, q3⟩
def PTR (σ : ev_M) (res : Int ⊕ (Int × ev_M)) (r : Option ev_V) (τ : ev_M) : Prop := (∀ a : Nat, a ≠ 46 → a ≠ 47 → a ≠ 49 → τ a = σ a) ∧ (∀ i : Int, i < 11 ∨ 15 < i → τ 46 i = σ 46 i) ∧ τ 46 11 = 0 ∧ match res with
  | .inl x => r = some (vI (-1 - x)) ∧ eqP (wr (τ 47)) (wr (σ 47))
  | .inr (k, P) => r = some (vI k) ∧ eqP (wr (τ 47)) P
/-- what stands while the text is read -/
def frQ (σ τ : ev_M) : Prop := (∀ a : Nat, a ≠ 46 → a ≠ 47 → a ≠ 49 → τ a = σ a) ∧ (∀ i : Int, i < 12 ∨ 15 < i → τ 46 i = σ 46 i) ∧ ∀ i : Int, 0 ≤ i ∧ i < 100 → τ 49 i = σ 47 i
theorem frQ_I {σ τ ω : ev_M} (h : frQ σ τ) (g : frI τ ω) : frQ σ ω := ⟨fun a h1 h2 h3 => by rw [g.1 a h1 h2]; exact h.1 a h1 h2 h3, fun i hi => by rw [g.2 i hi]; exact h.2.1 i hi, fun i hi => by rw [g.1 49 (by decide) (by decide)]; exact h.2.2 i hi⟩
theorem c_X6_plain {b : ev_B} {σ : ev_M} (H : okP (wr (σ 47))) (HT : okTR σ) : Cl b mX6_plain [vR 46] σ (PTR σ (tpe (σ 55) (σ 46 11) (wr (σ 47)))) := by
  refine ev_enter okX6_plain.1 (Nat.le_of_ble_eq_true rfl) ?_
  generalize hB : σ 55 = B
  generalize hL : σ 46 11 = L
  have hLb := HT.1
  rw [hL] at hLb
  have bad : ∀ (τ : ev_M) (x k : Int), frQ σ τ → τ 46 12 = x → Ev b mX6_plain 83 [(0, vR 46), (1, vI k)] [vI 1, vR 46] τ (PTR σ (.inl x)) := by
    intro τ x k fr h12
    refine ev_put (ty := .boolean) 15 15 dX6_plain_83 rfl rfl flX6_237 iwX6 tyX6_ok nmX6 (by decide) rfl rfl (by decide +kernel) rfl rfl rfl ?_
    have w15 : mup τ 46 15 1 46 15 = 1 := mup_at
    refine ev_aload_n dX6_plain_86 rfl ?_
    refine ev_geti 15 15 dX6_plain_87 rfl rfl flX6_237 iwX6 (by decide) rfl rfl ?_
    refine ev_if_eq (tgt := 97) dX6_plain_90 (by decide) (by omega) (fun c90 => ?_) (fun c90 => ?_)
    · exact absurd c90 (by omega)
    · refine ev_aload_n dX6_plain_93 rfl ?_
      refine ev_V0 (c_X6_putsBack) okX6_putsBack dX6_plain_94 mlX6_308 rfl rfl ⟨by decide, by decide⟩ rfl (Nat.le_of_ble_eq_true rfl) ?_
      refine ev_aload_n dX6_plain_97 rfl ?_
      refine ev_iconst dX6_plain_98 ?_
      refine ev_put (ty := .int) 11 11 dX6_plain_99 rfl rfl flX6_211 iwX6 tyX6_ok nmX6 (by decide) rfl rfl (by decide +kernel) rfl rfl rfl ?_
      generalize hω : mup (cpy (mup τ 46 15 1) 47 49 100) 46 11 0 = ω
      have w : ∀ i : Int, i ≠ 11 → ω 46 i = mup τ 46 15 1 46 i := fun i hi => by rw [← hω, mup_off hi, cpy_ne (by decide)]
      have w15' : ω 46 15 = 1 := by rw [w 15 (by decide)]; exact w15
      have w12 : ω 46 12 = x := by rw [w 12 (by decide), mup_off (by decide)]; exact h12
      refine ev_aload_n dX6_plain_102 rfl ?_
      refine ev_geti 15 15 dX6_plain_103 rfl rfl flX6_237 iwX6 (by decide) rfl rfl ?_
      refine ev_if_eq (tgt := 118) dX6_plain_106 (by decide) (by omega) (fun c106 => ?_) (fun c106 => ?_)
      · exact absurd c106 (by omega)
      · refine ev_iconst dX6_plain_109 ?_
        refine ev_aload_n dX6_plain_110 rfl ?_
        refine ev_geti 12 12 dX6_plain_111 rfl rfl flX6_225 iwX6 (by decide) rfl rfl ?_
        rw [w12]
        refine ev_isub dX6_plain_114 ?_
        refine ev_goto (tgt := 119) dX6_plain_115 (by decide) ?_
        refine ev_iret dX6_plain_119 rfl rfl ?_
        refine ⟨fun a h1 h2 h3 => ?_, fun i hi => ?_, ?_, rfl, ?_⟩
        · rw [← hω, mup_ne h1, cpy_ne h2, mup_ne h1]; exact fr.1 a h1 h2 h3
        · rw [w i (by omega), mup_off (by omega)]; exact fr.2.1 i (by omega)
        · rw [← hω, mup_at]
        · refine eqS_wr (fun i hi => ?_) H
          rw [← hω, mup_ne (by decide), cpy_at i hi, mup_ne (by decide)]
          exact fr.2.2 i hi
  have at59w : ∀ (τ : ev_M) (x k : Int), frQ σ τ → WR τ x → Ev b mX6_plain 59 [(0, vR 46), (1, vI k)] [] τ (PTR σ (.inl x)) := by
    intro τ x k fr hw
    have h15 := hw.2.1
    refine ev_aload_n dX6_plain_59 rfl ?_
    refine ev_aload_n dX6_plain_60 rfl ?_
    refine ev_geti 15 15 dX6_plain_61 rfl rfl flX6_237 iwX6 (by decide) rfl rfl ?_
    refine ev_if_ne (tgt := 78) dX6_plain_64 (by decide) (by omega) (fun c64 => ?_) (fun c64 => ?_)
    · refine ev_iconst dX6_plain_78 ?_
      refine ev_goto (tgt := 83) dX6_plain_79 (by decide) ?_
      exact bad τ x k fr hw.2.2.1
    · exact absurd c64 (by omega)
  have at59 : ∀ (τ : ev_M) (t : Tk) (P : ev_M) (k : Int), frQ σ τ → LR τ t → eqP (wr (τ 47)) P → Ev b mX6_plain 59 [(0, vR 46), (1, vI k)] [] τ (PTR σ (if t.1 = 0 then .inr (k, P) else .inl t.2.1)) := by
    intro τ t P k fr hl e
    obtain ⟨l1, l2, l3, l4, l5, l6⟩ := hl
    have t1 := l1.1
    have z0 : t.1 = 0 ↔ τ 46 11 ≤ t.2.1 := by
      rw [← tk0 (B := τ 55) (L := τ 46 11) (s := t.2.1), ← l5]
    refine ev_aload_n dX6_plain_59 rfl ?_
    refine ev_aload_n dX6_plain_60 rfl ?_
    refine ev_geti 15 15 dX6_plain_61 rfl rfl flX6_237 iwX6 (by decide) rfl rfl ?_
    refine ev_if_ne (tgt := 78) dX6_plain_64 (by decide) (by omega) (fun c64 => ?_) (fun c64 => ?_)
    · exact absurd l2 c64
    · refine ev_aload_n dX6_plain_67 rfl ?_
      refine ev_geti 12 12 dX6_plain_68 rfl rfl flX6_225 iwX6 (by decide) rfl rfl ?_
      rw [l3]
      refine ev_aload_n dX6_plain_71 rfl ?_
      refine ev_geti 11 11 dX6_plain_72 rfl rfl flX6_211 iwX6 (by decide) rfl rfl ?_
      refine ev_icmp_ge (tgt := 82) dX6_plain_75 (by decide) (by omega) (by omega) (fun c75 => ?_) (fun c75 => ?_)
      · rw [if_pos (z0.mpr (by omega))]
        refine ev_iconst dX6_plain_82 ?_
        refine ev_put (ty := .boolean) 15 15 dX6_plain_83 rfl rfl flX6_237 iwX6 tyX6_ok nmX6 (by decide) rfl rfl (by decide +kernel) rfl rfl rfl ?_
        have w15 : mup τ 46 15 0 46 15 = 0 := mup_at
        refine ev_aload_n dX6_plain_86 rfl ?_
        refine ev_geti 15 15 dX6_plain_87 rfl rfl flX6_237 iwX6 (by decide) rfl rfl ?_
        refine ev_if_eq (tgt := 97) dX6_plain_90 (by decide) (by omega) (fun c90 => ?_) (fun c90 => ?_)
        · refine ev_aload_n dX6_plain_97 rfl ?_
          refine ev_iconst dX6_plain_98 ?_
          refine ev_put (ty := .int) 11 11 dX6_plain_99 rfl rfl flX6_211 iwX6 tyX6_ok nmX6 (by decide) rfl rfl (by decide +kernel) rfl rfl rfl ?_
          generalize hω : mup (mup τ 46 15 0) 46 11 0 = ω
          have w : ∀ i : Int, i ≠ 11 → ω 46 i = mup τ 46 15 0 46 i := fun i hi => by rw [← hω, mup_off hi]
          have w15' : ω 46 15 = 0 := by rw [w 15 (by decide)]; exact w15
          refine ev_aload_n dX6_plain_102 rfl ?_
          refine ev_geti 15 15 dX6_plain_103 rfl rfl flX6_237 iwX6 (by decide) rfl rfl ?_
          refine ev_if_eq (tgt := 118) dX6_plain_106 (by decide) (by omega) (fun c106 => ?_) (fun c106 => ?_)
          · refine ev_iload_n dX6_plain_118 rfl ?_
            refine ev_iret dX6_plain_119 rfl rfl ?_
            refine ⟨fun a h1 h2 h3 => ?_, fun i hi => ?_, ?_, rfl, ?_⟩
            · rw [← hω, mup_ne h1, mup_ne h1]; exact fr.1 a h1 h2 h3
            · rw [w i (by omega), mup_off (by omega)]; exact fr.2.1 i (by omega)
            · rw [← hω, mup_at]
            · rw [← hω, mup_ne (by decide), mup_ne (by decide)]; exact e
          · exact absurd w15' c106
        · exact absurd w15 c90
      · rw [if_neg (fun z => by have := z0.mp z; omega)]
        refine ev_iconst dX6_plain_78 ?_
        refine ev_goto (tgt := 83) dX6_plain_79 (by decide) ?_
        exact bad τ t.2.1 k fr l3
  have loop : ∀ (n : Nat) (τ : ev_M) (res : Rs) (k : Int), frQ σ τ → ST τ res → (∀ t P, res = .inr (t, P) → L - t.2.1 ≤ n) → Ev b mX6_plain 24 [(0, vR 46), (1, vI k)] [] τ (PTR σ (nxt B L n k res)) := by
    intro n
    induction n with
    | zero =>
      intro τ res k fr hs hf
      match res, hs, hf with
      | .inl x, hs, _ =>
        have h15 : τ 46 15 = 1 := hs.2.1
        refine ev_aload_n dX6_plain_24 rfl ?_
        refine ev_geti 15 15 dX6_plain_25 rfl rfl flX6_237 iwX6 (by decide) rfl rfl ?_
        refine ev_if_ne (tgt := 59) dX6_plain_28 (by decide) (by omega) (fun c28 => ?_) (fun c28 => ?_)
        · exact at59w τ x k fr hs
        · exact absurd c28 (by omega)
      | .inr (t, P), hs, hf =>
        obtain ⟨hl, e, HP⟩ := hs
        have hf2 := hf t P rfl
        have hl0 := hl
        obtain ⟨l1, l2, l3, l4, l5, l6⟩ := hl0
        have eL : τ 46 11 = L := by rw [fr.2.1 11 (by omega)]; exact hL
        have z0 : t.1 = 0 := by
          rw [l5, tk0]; omega
        have a := at59 τ t P k fr hl e
        rw [if_pos z0] at a
        unfold nxt
        simp only []
        rw [if_pos z0]
        have bz : bAt (τ 55) (τ 46 11) t.2.1 = -1 := by unfold bAt; rw [if_neg (by omega)]
        refine ev_aload_n dX6_plain_24 rfl ?_
        refine ev_geti 15 15 dX6_plain_25 rfl rfl flX6_237 iwX6 (by decide) rfl rfl ?_
        refine ev_if_ne (tgt := 59) dX6_plain_28 (by decide) (by omega) (fun c28 => ?_) (fun c28 => ?_)
        · exact a
        · refine ev_aload_n dX6_plain_31 rfl ?_
          refine ev_aload_n dX6_plain_32 rfl ?_
          refine ev_geti 12 12 dX6_plain_33 rfl rfl flX6_225 iwX6 (by decide) rfl rfl ?_
          rw [l3]
          refine ev_V1 (c_X6_byteAt (by omega) l1.1) okX6_byteAt dX6_plain_36 mlX6_228 rfl rfl ⟨by decide, by decide⟩ rfl (Nat.le_of_ble_eq_true rfl) ?_
          rw [bz]
          refine ev_bipush dX6_plain_39 (by decide) ?_
          refine ev_icmp_ne (tgt := 59) dX6_plain_41 (by decide) (by omega) (by omega) (fun c41 => ?_) (fun c41 => ?_)
          · exact a
          · exact absurd c41 (by omega)
    | succ n ih =>
      intro τ res k fr hs hf
      match res, hs, hf with
      | .inl x, hs, _ =>
        have h15 : τ 46 15 = 1 := hs.2.1
        refine ev_aload_n dX6_plain_24 rfl ?_
        refine ev_geti 15 15 dX6_plain_25 rfl rfl flX6_237 iwX6 (by decide) rfl rfl ?_
        refine ev_if_ne (tgt := 59) dX6_plain_28 (by decide) (by omega) (fun c28 => ?_) (fun c28 => ?_)
        · exact at59w τ x k fr hs
        · exact absurd c28 (by omega)
      | .inr (t, P), hs, hf =>
        obtain ⟨hl, e, HP⟩ := hs
        have hf2 := hf t P rfl
        have hl0 := hl
        obtain ⟨l1, l2, l3, l4, l5, l6⟩ := hl0
        have t1 := l1.1
        have eL : τ 46 11 = L := by rw [fr.2.1 11 (by omega)]; exact hL
        have eB : τ 55 = B := by rw [fr.1 55 (by decide) (by decide) (by decide)]; exact hB
        have a := at59 τ t P k fr hl e
        have z3 : t.1 = 3 ↔ bAt (τ 55) (τ 46 11) t.2.1 = 59 := by
          rw [← tk3 (B := τ 55) (L := τ 46 11) (s := t.2.1), ← l5]
        have bd := bAt_bd l1 (k := t.2.1) (by omega)
        have gt : gdT L t := by unfold gdT; omega
        unfold nxt
        simp only []
        refine ev_aload_n dX6_plain_24 rfl ?_
        refine ev_geti 15 15 dX6_plain_25 rfl rfl flX6_237 iwX6 (by decide) rfl rfl ?_
        refine ev_if_ne (tgt := 59) dX6_plain_28 (by decide) (by omega) (fun c28 => ?_) (fun c28 => ?_)
        · exact absurd l2 c28
        · refine ev_aload_n dX6_plain_31 rfl ?_
          refine ev_aload_n dX6_plain_32 rfl ?_
          refine ev_geti 12 12 dX6_plain_33 rfl rfl flX6_225 iwX6 (by decide) rfl rfl ?_
          rw [l3]
          refine ev_V1 (c_X6_byteAt (by omega) l1.1) okX6_byteAt dX6_plain_36 mlX6_228 rfl rfl ⟨by decide, by decide⟩ rfl (Nat.le_of_ble_eq_true rfl) ?_
          refine ev_bipush dX6_plain_39 (by decide) ?_
          refine ev_icmp_ne (tgt := 59) dX6_plain_41 (by decide) (by omega) (by omega) (fun c41 => ?_) (fun c41 => ?_)
          · rw [if_neg (show ¬ t.1 = 3 from fun z => c41 (z3.mp z))]
            exact a
          · have y3 := z3.mpr c41
            rw [if_neg (show ¬ t.1 = 0 by omega), if_pos y3, prs_nxt]
            refine ev_aload_n dX6_plain_44 rfl ?_
            refine ev_iconst dX6_plain_45 ?_
            refine ev_callV (c_must_y hl) okX6_must dX6_plain_46 mlX6_251 rfl rfl ⟨by decide, by decide⟩ rfl (Nat.le_of_ble_eq_true rfl) (fun r46 τ46 h46 => ?_)
            obtain ⟨rfl, g1, g2, g3⟩ := h46
            rw [eB, eL] at g1
            have fr1 := frQ_I fr (frI_M g3)
            have e1L : τ46 46 11 = L := by rw [fr1.2.1 11 (by omega)]; exact hL
            have e1B : τ46 55 = B := by rw [fr1.1 55 (by decide) (by decide) (by decide)]; exact hB
            have e47 : τ46 47 = τ 47 := frM_47 g3
            have e1 : eqP (wr (τ46 47)) P := by rw [e47]; exact e
            refine ev_aload_n dX6_plain_49 rfl ?_
            refine ev_callV (c_X6_item g1 (eqP_ok e1 HP)) okX6_item dX6_plain_50 mlX6_305 rfl rfl ⟨by decide, by decide⟩ rfl (Nat.le_of_ble_eq_true rfl) (fun r50 τ50 h50 => ?_)
            obtain ⟨rfl, i1⟩ := h50
            obtain ⟨f5, s5⟩ := IR_ST e1 HP i1
            rw [e1B, e1L] at s5
            refine ev_iinc dX6_plain_53 rfl (by decide) rfl ?_
            refine ev_goto (tgt := 24) dX6_plain_56 (by decide) ?_
            refine ih τ50 _ (k + 1) (frQ_I fr1 f5) s5 (fun t2 P2 h2 => ?_)
            have gx := gdT_x (B := B) gt
            have mo := (itm_mo gx.1 h2).2
            obtain ⟨a1, a2, a3⟩ := gt
            omega
  refine ev_aload_n dX6_plain_0 rfl ?_
  refine ev_V0 (c_X6_saves) okX6_saves dX6_plain_1 mlX6_302 rfl rfl ⟨by decide, by decide⟩ rfl (Nat.le_of_ble_eq_true rfl) ?_
  refine ev_aload_n dX6_plain_4 rfl ?_
  refine ev_iconst dX6_plain_5 ?_
  refine ev_put (ty := .boolean) 15 15 dX6_plain_6 rfl rfl flX6_237 iwX6 tyX6_ok nmX6 (by decide) rfl rfl (by decide +kernel) rfl rfl rfl ?_
  refine ev_aload_n dX6_plain_9 rfl ?_
  refine ev_iconst dX6_plain_10 ?_
  refine ev_put (ty := .int) 13 13 dX6_plain_11 rfl rfl flX6_222 iwX6 tyX6_ok nmX6 (by decide) rfl rfl (by decide +kernel) rfl rfl rfl ?_
  generalize hω : mup (mup (cpy σ 49 47 100) 46 15 0) 46 13 0 = ω
  have w13 : ω 46 13 = 0 := by rw [← hω, mup_at]
  have w15 : ω 46 15 = 0 := by rw [← hω, mup_off (by decide), mup_at]
  have wi : ∀ i : Int, i ≠ 13 → i ≠ 15 → ω 46 i = σ 46 i := fun i h1 h2 => by rw [← hω, mup_off h1, mup_off h2, cpy_ne (by decide)]
  have wa : ∀ a : Nat, a ≠ 46 → a ≠ 49 → ω a = σ a := fun a h1 h2 => by rw [← hω, mup_ne h1, mup_ne h1, cpy_ne h2]
  have w49 : ∀ i : Int, 0 ≤ i ∧ i < 100 → ω 49 i = σ 47 i := fun i hi => by rw [← hω, mup_ne (by decide), mup_ne (by decide), cpy_at i hi]
  have w11 := wi 11 (by decide) (by decide)
  have w55 := wa 55 (by decide) (by decide)
  have HTω : okTR ω := by unfold okTR; rw [w11, w55]; exact HT
  refine ev_aload_n dX6_plain_14 rfl ?_
  refine ev_V0 (c_X6_token HTω (by omega)) okX6_token dX6_plain_15 mlX6_241 rfl rfl ⟨by decide, by decide⟩ rfl (Nat.le_of_ble_eq_true rfl) ?_
  refine ev_iconst dX6_plain_18 ?_
  refine ev_istore_n dX6_plain_19 (by decide) rfl ?_
  rw [w11, w55, w13, hB, hL]
  have q := tk_bd (B := B) (L := L) (p := 0) (by omega)
  have ta := tk_at (B := B) (L := L) (p := 0)
  unfold tpe
  rw [prs_nxt]
  generalize tk B L 0 = t at *
  generalize hυ : mR ω t.2.1 t.2.2 = υ
  have e : ∀ i : Int, i ≠ 12 → i ≠ 13 → υ 46 i = ω 46 i := fun i x1 x2 => by rw [← hυ]; unfold mR; rw [mup_off x2, mup_off x1]
  have e2 : ∀ a : Nat, a ≠ 46 → υ a = ω a := fun a x => by rw [← hυ]; unfold mR; rw [mup_ne x, mup_ne x]
  have u12 : υ 46 12 = t.2.1 := by rw [← hυ]; unfold mR; rw [mup_off (by decide), mup_at]
  have u13 : υ 46 13 = t.2.2 := by rw [← hυ]; unfold mR; rw [mup_at]
  have u11 : υ 46 11 = L := by rw [e 11 (by decide) (by decide), w11]; exact hL
  have u55 : υ 55 = B := by rw [e2 55 (by decide), w55]; exact hB
  have u47 : υ 47 = σ 47 := by rw [e2 47 (by decide), wa 47 (by decide) (by decide)]
  have HTυ : okTR υ := by unfold okTR; rw [u11, u55, ← hL, ← hB]; exact HT
  have lr : LR υ t := ⟨HTυ, by rw [e 15 (by decide) (by decide)]; exact w15, u12, u13, by rw [u55, u11]; exact ta, by rw [u11]; omega⟩
  have fr : frQ σ υ := ⟨fun a h1 h2 h3 => by rw [e2 a h1]; exact wa a h1 h3, fun i hi => by rw [e i (by omega) (by omega)]; exact wi i (by omega) (by omega), fun i hi => by rw [e2 49 (by decide)]; exact w49 i hi⟩
  refine ev_aload_n dX6_plain_20 rfl ?_
  refine ev_callV (c_X6_item lr (by rw [u47]; exact H)) okX6_item dX6_plain_21 mlX6_305 rfl rfl ⟨by decide, by decide⟩ rfl (Nat.le_of_ble_eq_true rfl) (fun r21 τ21 h21 => ?_)
  obtain ⟨rfl, i1⟩ := h21
  obtain ⟨f5, s5⟩ := IR_ST (eqP_rf (P := wr (υ 47))) (by rw [u47]; exact H) i1
  rw [u55, u11, u47] at s5
  refine loop 119 τ21 _ 1 (frQ_I fr f5) s5 (fun t2 P2 h2 => ?_)
  have mo := (itm_mo (show gdT L t by unfold gdT; omega) h2).2
  omega
