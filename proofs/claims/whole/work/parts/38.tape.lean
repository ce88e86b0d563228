/-! a tape -/
def RS : Int ⊕ (Int × ev_M) → Int ⊕ (Int × ev_M) → Prop
  | .inl x, .inl y => x = y
  | .inr (k', P'), .inr (k, P) => k' = k ∧ eqP P' P ∧ okP P
  | _, _ => False
theorem prs_rel {B : Int → Int} {L : Int} : ∀ (n : Nat) {P P' : ev_M} {t : Tk} {k : Int}, eqP P' P → okP P → RS (prs B L n P' t k) (prs B L n P t k)
  | 0, _, _, _, _, _, _ => rfl
  | n + 1, P, P', t, k, h, H => by
    have q := itm_rel (B := B) (L := L) (t := t) h H
    unfold prs
    match h1 : itm B L P' t, h2 : itm B L P t with
    | .inl x, .inl y => rw [h1, h2] at q; exact q
    | .inl x, .inr y => rw [h1, h2] at q; exact q.elim
    | .inr x, .inl y => rw [h1, h2] at q; exact q.elim
    | .inr (t', Q'), .inr (t2, Q) =>
      rw [h1, h2] at q
      obtain ⟨rfl, q2, q3⟩ := q
      simp only []
      split
      · exact ⟨rfl, q2, q3⟩
      · split
        · exact prs_rel n q2 q3
        · exact rfl
def PS (p : Nat) (σ : ev_M) (res : Int ⊕ (Int × ev_M)) (r : Option ev_V) (τ : ev_M) : Prop := frTP p σ τ ∧ match res with
  | .inl x => r = some (vI (-1 - x)) ∧ (0 ≤ x ∧ x ≤ 120)
  | .inr (k, P) => r = some (vI k) ∧ (1 ≤ k ∧ k ≤ 120) ∧ wn τ p = P
theorem eqP_rf {P : ev_M} : eqP P P := ⟨rfl, rfl, rfl, rfl, fun _ _ => rfl, fun _ _ => ⟨rfl, rfl, rfl, rfl⟩, fun _ _ => ⟨rfl, rfl, rfl⟩⟩
theorem c_X4_parse {b : ev_B} {σ : ev_M} {p : Nat} (hp : isP p) (HT : okT σ) (H : okP (wn σ p)) : Cl b mX4_parse [vR 34, vR p] σ (PS p σ (prs (σ 35) (σ 34 1) 120 (wn σ p) (tk (σ 35) (σ 34 1) 0) 1)) := by
  refine ev_enter okX4_parse.1 (Nat.le_of_ble_eq_true rfl) ?_
  have hb : p ≤ 19 := by rcases hp with rfl | rfl | rfl <;> omega
  generalize hB : σ 35 = B
  generalize hL : σ 34 1 = L
  have hLb : 0 ≤ L ∧ L ≤ 120 := by rw [← hL]; exact HT.1
  have loop : ∀ (n : Nat) (τ : ev_M) (t : Tk) (k : Int), 1 ≤ k → k + n = 121 → LK τ t → τ 35 = B → τ 34 1 = L → okP (wn τ p) → frTP p σ τ → Ev b mX4_parse 11 [(0, vR 34), (1, vR p), (2, vI k)] [] τ (PS p σ (prs B L n (wn τ p) t k)) := by
    intro n
    induction n with
    | zero =>
      intro τ t k h1 h2 hl eB eL H1 fr
      have e3 := LK_s hl
      have x3 := LK_x hl
      refine ev_iload_n dX4_parse_11 rfl ?_
      refine ev_bipush dX4_parse_12 (by decide) ?_
      refine ev_icmp_gt (tgt := 66) dX4_parse_14 (by decide) (by omega) (by omega) (fun c14 => ?_) (fun c14 => ?_)
      · refine ev_iconst dX4_parse_66 ?_
        refine ev_aload_n dX4_parse_67 rfl ?_
        refine ev_geti 3 3 dX4_parse_68 rfl rfl flX4_29 iwX4 (by decide) rfl rfl ?_
        rw [e3]
        refine ev_isub dX4_parse_71 ?_
        refine ev_iret dX4_parse_72 rfl rfl ?_
        exact ⟨fr, rfl, by omega⟩
      · exact absurd c14 (by omega)
    | succ n ih =>
      intro τ t k h1 h2 hl eB eL H1 fr
      refine ev_iload_n dX4_parse_11 rfl ?_
      refine ev_bipush dX4_parse_12 (by decide) ?_
      refine ev_icmp_gt (tgt := 66) dX4_parse_14 (by decide) (by omega) (by omega) (fun c14 => ?_) (fun c14 => ?_)
      · exact absurd c14 (by omega)
      · refine ev_aload_n dX4_parse_17 rfl ?_
        refine ev_aload_n dX4_parse_18 rfl ?_
        refine ev_callV (c_X4_takeItem hp hl H1) okX4_takeItem dX4_parse_19 mlX4_25 rfl rfl ⟨by decide, by decide⟩ rfl (Nat.le_of_ble_eq_true rfl) (fun r19 τ19 h19 => ?_)
        rw [eB, eL] at h19
        have q := itm_rel (B := B) (L := L) (t := t) (eqP_rf (P := wn τ p)) H1
        unfold prs
        match hi : itm B L (wn τ p) t with
        | .inl x =>
          rw [hi] at h19
          obtain ⟨f1, rfl, e3, x3⟩ := h19
          refine ev_if_ne (tgt := 32) dX4_parse_22 (by decide) (by omega) (fun c22 => ?_) (fun c22 => ?_)
          · exact absurd c22 (by omega)
          · refine ev_iconst dX4_parse_25 ?_
            refine ev_aload_n dX4_parse_26 rfl ?_
            refine ev_geti 3 3 dX4_parse_27 rfl rfl flX4_29 iwX4 (by decide) rfl rfl ?_
            rw [e3]
            refine ev_isub dX4_parse_30 ?_
            refine ev_iret dX4_parse_31 rfl rfl ?_
            exact ⟨frTP_tr fr f1, rfl, by omega⟩
        | .inr (t', P') =>
          rw [hi] at h19 q
          obtain ⟨f1, rfl, l1, rfl⟩ := h19
          obtain ⟨_, _, H2⟩ := q
          have fr2 := frTP_tr fr f1
          have eB2 : τ19 35 = B := by rw [f1.1 35 (by decide) (by omega)]; exact eB
          have eL2 : τ19 34 1 = L := by rw [f1.2]; exact eL
          have e2 : τ19 34 2 = t'.1 := l1.2.1.1
          have e3 := LK_s l1
          have x3 := LK_x l1
          have b2 := l1.2.2.2.1
          simp only []
          refine ev_if_ne (tgt := 32) dX4_parse_22 (by decide) (by omega) (fun c22 => ?_) (fun c22 => ?_)
          · refine ev_aload_n dX4_parse_32 rfl ?_
            refine ev_geti 2 2 dX4_parse_33 rfl rfl flX4_32 iwX4 (by decide) rfl rfl ?_
            rw [e2]
            refine ev_if_ne (tgt := 41) dX4_parse_36 (by decide) (by omega) (fun c36 => ?_) (fun c36 => ?_)
            · rw [if_neg c36]
              refine ev_aload_n dX4_parse_41 rfl ?_
              refine ev_geti 2 2 dX4_parse_42 rfl rfl flX4_32 iwX4 (by decide) rfl rfl ?_
              rw [e2]
              refine ev_iconst dX4_parse_45 ?_
              refine ev_icmp_eq (tgt := 56) dX4_parse_46 (by decide) (by omega) (by omega) (fun c46 => ?_) (fun c46 => ?_)
              · rw [if_pos c46]
                refine ev_aload_n dX4_parse_56 rfl ?_
                refine ev_callV (tA l1 eB2 eL2) okX4_advance dX4_parse_57 mlX4_22 rfl rfl ⟨by decide, by decide⟩ rfl (Nat.le_of_ble_eq_true rfl) (fun r57 τ57 h57 => ?_)
                obtain ⟨rfl, a1, a2, a3, a4, a5⟩ := h57
                refine ev_iinc dX4_parse_60 rfl (by decide) rfl ?_
                refine ev_goto (tgt := 11) dX4_parse_63 (by decide) ?_
                have l := ih τ57 (tkx B L t') (k + 1) (by omega) (by omega) a1 a4 a5 (by rw [wn_T hp a2]; exact H2) (frTP_tr fr2 (frTP_T a2))
                rw [wn_T hp a2] at l
                exact l
              · rw [if_neg c46]
                refine ev_iconst dX4_parse_49 ?_
                refine ev_aload_n dX4_parse_50 rfl ?_
                refine ev_geti 3 3 dX4_parse_51 rfl rfl flX4_29 iwX4 (by decide) rfl rfl ?_
                rw [e3]
                refine ev_isub dX4_parse_54 ?_
                refine ev_iret dX4_parse_55 rfl rfl ?_
                exact ⟨fr2, rfl, by omega⟩
            · rw [if_pos c36]
              refine ev_iload_n dX4_parse_39 rfl ?_
              refine ev_iret dX4_parse_40 rfl rfl ?_
              exact ⟨fr2, rfl, by omega, rfl⟩
          · exact absurd c22 (by omega)
  refine ev_aload_n dX4_parse_0 rfl ?_
  refine ev_iconst dX4_parse_1 ?_
  refine ev_put (ty := .int) 4 4 dX4_parse_2 rfl rfl flX4_19 iwX4 tyX4_ok nmX4 (by decide) rfl rfl (by decide +kernel) rfl rfl rfl ?_
  generalize hω : mup σ 34 4 0 = ω
  have w : ∀ i : Int, i ≠ 4 → ω 34 i = σ 34 i := fun i hi => by rw [← hω]; simp [mup, hi]
  have w4 : ω 34 4 = 0 := by rw [← hω]; simp [mup]
  have wa : ∀ a : Nat, a ≠ 34 → ω a = σ a := fun a ha => by rw [← hω, mup_ne ha]
  have f0 : frT σ ω := ⟨wa, w 1 (by decide)⟩
  have HT2 := frT_ok f0 HT
  have w1 := w 1 (by decide)
  refine ev_aload_n dX4_parse_5 rfl ?_
  refine ev_callV (c_X4_advance HT2 (by omega)) okX4_advance dX4_parse_6 mlX4_22 rfl rfl ⟨by decide, by decide⟩ rfl (Nat.le_of_ble_eq_true rfl) (fun r6 τ6 h6 => ?_)
  obtain ⟨rfl, g2, g3, g4⟩ := h6
  rw [w4, wa 35 (by decide), w1, hB, hL] at g2
  have q := tk_bd (B := B) (L := L) (p := 0) (by omega)
  have fr := frT_tr f0 g3
  have eB : τ6 35 = B := by rw [fr.1 35 (by decide)]; exact hB
  have eL : τ6 34 1 = L := by rw [fr.2]; exact hL
  have lk : LK τ6 (tk B L 0) := by
    refine ⟨frT_ok g3 HT2, g2, ?_, q.2.2.2.2, ?_⟩
    · rw [eL]; omega
    · intro z; rw [eB]; exact tk_nm (by omega) z
  refine ev_iconst dX4_parse_9 ?_
  refine ev_istore_n dX4_parse_10 (by decide) rfl ?_
  have l := loop 120 τ6 (tk B L 0) 1 (by omega) (by omega) lk eB eL (by rw [wn_T hp fr]; exact H) (frTP_T fr)
  rw [wn_T hp fr] at l
  exact l
/-- what the tape makes of a plain -/
def tpe (B : Int → Int) (L : Int) (P : ev_M) : Int ⊕ (Int × ev_M) := prs B L 120 P (tk B L 0) 1
def PT (σ : ev_M) (res : Int ⊕ (Int × ev_M)) (r : Option ev_V) (τ : ev_M) : Prop := (∀ a : Nat, a = 0 ∨ (9 < a ∧ a < 19) ∨ 34 < a → τ a = σ a) ∧ τ 34 1 = 0 ∧ match res with
  | .inl x => r = some (vI (-1 - x)) ∧ ∀ a : Nat, a < 19 → τ a = σ a
  | .inr (k, P) => r = some (vI k) ∧ eqP (wn τ 1) P
theorem c_X5_plain {b : ev_B} {σ : ev_M} (H : okP (wn σ 1)) (HT : okT σ) : Cl b mX5_plain [vR 0] σ (PT σ (tpe (σ 35) (σ 34 1) (wn σ 1))) := by
  refine ev_enter okX5_plain.1 (Nat.le_of_ble_eq_true rfl) ?_
  refine ev_aload_n dX5_plain_0 rfl ?_
  refine ev_getr 2 dX5_plain_1 rfl rfl flX5_19 iwX5 (by decide) rfl ?_
  refine ev_aload_n dX5_plain_4 rfl ?_
  refine ev_getr 0 dX5_plain_5 rfl rfl flX5_10 iwX5 (by decide) rfl ?_
  refine ev_callV (c_X2_become hP19 hP1 (by decide) H) okX2_become dX5_plain_8 mlX5_174 rfl rfl ⟨by decide, by decide⟩ rfl (Nat.le_of_ble_eq_true rfl) (fun r8 τ8 h8 => ?_)
  obtain ⟨rfl, g1, g2⟩ := h8
  have H2 := eqP_ok g1 H
  have HT2 : okT τ8 := by unfold okT; rw [g2 34 (by omega), g2 35 (by omega)]; exact HT
  refine ev_aload_n dX5_plain_11 rfl ?_
  refine ev_getr 4 dX5_plain_12 rfl rfl flX5_32 iwX5 (by decide) rfl ?_
  refine ev_aload_n dX5_plain_15 rfl ?_
  refine ev_getr 2 dX5_plain_16 rfl rfl flX5_19 iwX5 (by decide) rfl ?_
  refine ev_callV (c_X4_parse hP19 HT2 H2) okX4_parse dX5_plain_19 mlX5_205 rfl rfl ⟨by decide, by decide⟩ rfl (Nat.le_of_ble_eq_true rfl) (fun r19 τ19 h19 => ?_)
  have q := prs_rel (B := σ 35) (L := σ 34 1) 120 (t := tk (σ 35) (σ 34 1) 0) (k := 1) g1 H
  rw [g2 34 (by omega), g2 35 (by omega)] at h19
  unfold tpe
  match h1 : prs (σ 35) (σ 34 1) 120 (wn τ8 19) (tk (σ 35) (σ 34 1) 0) 1, h2 : prs (σ 35) (σ 34 1) 120 (wn σ 1) (tk (σ 35) (σ 34 1) 0) 1 with
  | .inl x, .inl y =>
    rw [h1, h2] at q
    obtain rfl : x = y := q
    rw [h1] at h19
    obtain ⟨f1, rfl, xb⟩ := h19
    refine ev_istore_n dX5_plain_22 (by decide) rfl ?_
    refine ev_aload_n dX5_plain_23 rfl ?_
    refine ev_getr 4 dX5_plain_24 rfl rfl flX5_32 iwX5 (by decide) rfl ?_
    refine ev_iconst dX5_plain_27 ?_
    refine ev_put (ty := .int) 1 1 dX5_plain_28 rfl rfl flX5_198 iwX4 tyX4_ok nmX4 (by decide) rfl rfl (by decide +kernel) rfl rfl rfl ?_
    refine ev_iload_n dX5_plain_31 rfl ?_
    refine ev_if_lt (tgt := 46) dX5_plain_32 (by decide) (by omega) (fun c32 => ?_) (fun c32 => ?_)
    · refine ev_iload_n dX5_plain_46 rfl ?_
      refine ev_iret dX5_plain_47 rfl rfl ?_
      refine ⟨fun a ha => ?_, by simp [mup], rfl, fun a ha => ?_⟩
      · rw [mup_ne (by omega), f1.1 a (by omega) (by omega), g2 a (by omega)]
      · rw [mup_ne (by omega), f1.1 a (by omega) (by omega), g2 a (by omega)]
    · exact absurd c32 (by omega)
  | .inl x, .inr y => rw [h1, h2] at q; exact q.elim
  | .inr x, .inl y => rw [h1, h2] at q; exact q.elim
  | .inr (k', Q'), .inr (k, Q) =>
    rw [h1, h2] at q
    obtain ⟨rfl, q2, q3⟩ := q
    rw [h1] at h19
    obtain ⟨f1, rfl, kb, e19⟩ := h19
    have ew : wn (mup τ19 34 1 0) 19 = Q' := by rw [← e19]; exact wn_congr (fun j hj => mup_ne (by omega))
    refine ev_istore_n dX5_plain_22 (by decide) rfl ?_
    refine ev_aload_n dX5_plain_23 rfl ?_
    refine ev_getr 4 dX5_plain_24 rfl rfl flX5_32 iwX5 (by decide) rfl ?_
    refine ev_iconst dX5_plain_27 ?_
    refine ev_put (ty := .int) 1 1 dX5_plain_28 rfl rfl flX5_198 iwX4 tyX4_ok nmX4 (by decide) rfl rfl (by decide +kernel) rfl rfl rfl ?_
    refine ev_iload_n dX5_plain_31 rfl ?_
    refine ev_if_lt (tgt := 46) dX5_plain_32 (by decide) (by omega) (fun c32 => ?_) (fun c32 => ?_)
    · exact absurd c32 (by omega)
    · refine ev_aload_n dX5_plain_35 rfl ?_
      refine ev_getr 0 dX5_plain_36 rfl rfl flX5_10 iwX5 (by decide) rfl ?_
      refine ev_aload_n dX5_plain_39 rfl ?_
      refine ev_getr 2 dX5_plain_40 rfl rfl flX5_19 iwX5 (by decide) rfl ?_
      refine ev_callV (c_X2_become hP1 hP19 (by decide) (by rw [ew]; exact eqP_ok q2 q3)) okX2_become dX5_plain_43 mlX5_174 rfl rfl ⟨by decide, by decide⟩ rfl (Nat.le_of_ble_eq_true rfl) (fun r43 τ43 h43 => ?_)
      obtain ⟨rfl, k1, k2⟩ := h43
      rw [ew] at k1
      refine ev_iload_n dX5_plain_46 rfl ?_
      refine ev_iret dX5_plain_47 rfl rfl ?_
      refine ⟨fun a ha => ?_, ?_, rfl, eqP_trans k1 q2⟩
      · rw [k2 a (by omega), mup_ne (by omega), f1.1 a (by omega) (by omega), g2 a (by omega)]
      · rw [k2 34 (by omega)]; simp [mup]
