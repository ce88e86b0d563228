/-! the items of a tape -/
abbrev Tk : Type := Int × (Int × Int)
def tkx (B : Int → Int) (L : Int) (t : Tk) : Tk := tk B L t.2.2
def nmt (B : Int → Int) (t : Tk) : Int := nm B t.2.1 t.2.2
abbrev isNm (B : Int → Int) (t : Tk) (lo hi : Int) : Prop := t.1 = 2 ∧ lo ≤ nmt B t ∧ nmt B t ≤ hi
def whm (P : ev_M) (a e v : Int) : ev_M := fun j i => if j = 1 ∧ a ≤ i ∧ i ≤ e then v else P j i
abbrev Rs : Type := Int ⊕ (Tk × ev_M)
def itFee (B : Int → Int) (L : Int) (P : ev_M) (s : Int) (t : Tk) : Rs := if wd B t 7 = true then (if isNm B (tkx B L t) 0 99 then .inr (tkx B L (tkx B L t), mup P 4 s (nmt B (tkx B L t))) else .inl (tkx B L t).2.1) else .inr (t, P)
def itTem (B : Int → Int) (L : Int) (P : ev_M) (s : Int) (t : Tk) : Rs := if wd B t 6 = true then (if isNm B (tkx B L t) 0 30 then itFee B L (mup P 3 s (nmt B (tkx B L t))) s (tkx B L (tkx B L t)) else .inl (tkx B L t).2.1) else itFee B L P s t
def itSit (B : Int → Int) (L : Int) (P : ev_M) (k : Int) (t : Tk) : Rs := if P 0 3 < 6 then itTem B L (addS P 0 k) (P 0 3) (tkx B L t) else .inl t.2.1
def itLi2 (B : Int → Int) (L : Int) (P : ev_M) (o : Int) (t : Tk) : Rs := if wd B t 9 = true then (if isNm B (tkx B L t) 0 47 then .inr (tkx B L (tkx B L t), addL P 0 o (nmt B (tkx B L t))) else .inl (tkx B L t).2.1) else .inl t.2.1
def itLik (B : Int → Int) (L : Int) (P : ev_M) (t : Tk) : Rs := if P 0 8 < 8 then (if isNm B (tkx B L t) 0 (P 0 3 - 1) then itLi2 B L P (nmt B (tkx B L t)) (tkx B L (tkx B L t)) else .inl (tkx B L t).2.1) else .inl t.2.1
def itWh2 (B : Int → Int) (L : Int) (P : ev_M) (a v : Int) (t : Tk) : Rs := if wd B t 11 = true then (if isNm B (tkx B L t) a 47 then .inr (tkx B L (tkx B L t), whm P a (nmt B (tkx B L t)) v) else .inl (tkx B L t).2.1) else .inr (t, whm P a a v)
def itWh1 (B : Int → Int) (L : Int) (P : ev_M) (a : Int) (t : Tk) : Rs := if isNm B t 0 99 then itWh2 B L P a (nmt B t) (tkx B L t) else .inl t.2.1
def itWht (B : Int → Int) (L : Int) (P : ev_M) (t : Tk) : Rs := if isNm B (tkx B L t) 0 47 then itWh1 B L P (nmt B (tkx B L t)) (tkx B L (tkx B L t)) else .inl (tkx B L t).2.1
def itCrw (B : Int → Int) (L : Int) (P : ev_M) (t : Tk) : Rs := if isNm B (tkx B L t) 0 20 then .inr (tkx B L (tkx B L t), mup P 0 1 (nmt B (tkx B L t))) else .inl (tkx B L t).2.1
/-- the first of the kinds' words from k on -/
def kdF (B : Int → Int) (t : Tk) : Nat → Nat → Int
  | 0, _ => -1
  | m + 1, k => if wd B t k = true then (k : Int) else kdF B t m (k + 1)
def kdN (B : Int → Int) (t : Tk) : Int := kdF B t 6 0
theorem kdF_bd {B : Int → Int} {t : Tk} : ∀ m k : Nat, -1 ≤ kdF B t m k ∧ kdF B t m k < m + k
  | 0, k => by simp only [kdF]; omega
  | m + 1, k => by
    have := kdF_bd (B := B) (t := t) m (k + 1)
    unfold kdF
    split <;> omega
def itm (B : Int → Int) (L : Int) (P : ev_M) (t : Tk) : Rs := if 0 ≤ kdN B t then itSit B L P (kdN B t) t else if wd B t 8 = true then itLik B L P t else if wd B t 10 = true then itWht B L P t else if wd B t 12 = true then itCrw B L P t else .inl t.2.1
def prs (B : Int → Int) (L : Int) : Nat → ev_M → Tk → Int → Int ⊕ (Int × ev_M)
  | 0, _, t, _ => .inl t.2.1
  | n + 1, P, t, k => match itm B L P t with
    | .inl x => .inl x
    | .inr (t', P') => if t'.1 = 0 then .inr (k, P') else if t'.1 = 3 then prs B L n P' (tkx B L t') (k + 1) else .inl t'.2.1
theorem tk_nm {B : Int → Int} {L p : Int} (hL : p ≤ L) (h : (tk B L p).1 = 2) : 0 ≤ nmt B (tk B L p) ∧ nmt B (tk B L p) ≤ 1000 := by
  have h1 := run_bd (f := isSp) (B := B) hL
  unfold nmt
  unfold tk at h ⊢
  generalize run isSp B L p = s at h1 h ⊢
  unfold tkAt at h ⊢
  split at h
  · simp at h
  · rename_i h2
    rw [if_neg h2]
    split at h
    · simp at h
    · rename_i h3
      rw [if_neg h3]
      split at h
      · rename_i h4
        rw [if_pos h4]
        have h5 := run_bd (f := isDg) (B := B) (L := L) (p := s) (by omega)
        show 0 ≤ nm B s (run isDg B L s) ∧ nm B s (run isDg B L s) ≤ 1000
        exact nm_bd _ (fun k hk => h5.2.2 k (by omega))
      · split at h
        · simp at h
        · simp at h
/-- the tape stands at a token -/
def LK (σ : ev_M) (t : Tk) : Prop := okT σ ∧ TK σ t ∧ (0 ≤ t.2.1 ∧ t.2.1 ≤ t.2.2 ∧ t.2.2 ≤ σ 34 1) ∧ (0 ≤ t.1 ∧ t.1 ≤ 4) ∧ (t.1 = 2 → 0 ≤ nmt (σ 35) t ∧ nmt (σ 35) t ≤ 1000)
theorem LK_fr {σ τ : ev_M} {t : Tk} (h : LK σ t) (h1 : τ 34 = σ 34) (h2 : τ 35 = σ 35) : LK τ t := by
  unfold LK okT TK at h ⊢
  rw [h1, h2]
  exact h
theorem c_X4_adv {b : ev_B} {σ : ev_M} {t : Tk} (h : LK σ t) : Cl b mX4_advance [vR 34] σ (fun r τ => r = none ∧ LK τ (tkx (σ 35) (σ 34 1) t) ∧ frT σ τ ∧ τ 34 6 = σ 34 6) := by
  obtain ⟨h1, ⟨h2, h3, h4, h5⟩, h6, h7, h8⟩ := h
  refine (c_X4_advance h1 (by omega)).mono ?_
  rintro r τ ⟨g1, g2, g3, g4⟩
  rw [h4] at g2
  have q := tk_bd (B := σ 35) (L := σ 34 1) (p := t.2.2) (by omega)
  refine ⟨g1, ⟨frT_ok g3 h1, g2, ?_, q.2.2.2.2, ?_⟩, g3, g4⟩
  · rw [g3.2]; unfold tkx; omega
  · intro z; rw [g3.1 35 (by decide)]; exact tk_nm (by omega) z
theorem c_X4_takeWord_y {b : ev_B} {σ : ev_M} {t : Tk} {j : Nat} (hj : j < 13) (h : LK σ t) (hw : wd (σ 35) t j = true) : Cl b mX4_takeWord [vR 34, vR (61 + j)] σ (fun r τ => r = some (vI 1) ∧ LK τ (tkx (σ 35) (σ 34 1) t) ∧ frT σ τ ∧ τ 34 6 = σ 34 6) := by
  refine ev_enter okX4_takeWord.1 (Nat.le_of_ble_eq_true rfl) ?_
  refine ev_aload_n dX4_takeWord_0 rfl ?_
  refine ev_aload_n dX4_takeWord_1 rfl ?_
  refine ev_Vbne (tgt := 10) (c_X4_isWord hj h.1 h.2.1 h.2.2.1 h.2.2.2.1) okX4_isWord dX4_takeWord_2 mlX4_45 rfl rfl ⟨by decide, by decide⟩ rfl (Nat.le_of_ble_eq_true rfl) dX4_takeWord_5 (by decide) (fun c2 => ?_) (fun c2 => ?_)
  · refine ev_aload_n dX4_takeWord_10 rfl ?_
    refine ev_callV (c_X4_adv h) okX4_advance dX4_takeWord_11 mlX4_22 rfl rfl ⟨by decide, by decide⟩ rfl (Nat.le_of_ble_eq_true rfl) (fun r11 τ11 h11 => ?_)
    obtain ⟨rfl, g1, g2, g3⟩ := h11
    refine ev_iconst dX4_takeWord_14 ?_
    refine ev_iret dX4_takeWord_15 rfl (by first | rfl | exact ev_nb) ?_
    exact ⟨rfl, g1, g2, g3⟩
  · exact absurd hw c2
theorem c_X4_takeWord_n {b : ev_B} {σ : ev_M} {t : Tk} {j : Nat} (hj : j < 13) (h : LK σ t) (hw : ¬ wd (σ 35) t j = true) : CF b mX4_takeWord [vR 34, vR (61 + j)] σ (some (vI 0)) σ := by
  refine ev_enter okX4_takeWord.1 (Nat.le_of_ble_eq_true rfl) ?_
  refine ev_aload_n dX4_takeWord_0 rfl ?_
  refine ev_aload_n dX4_takeWord_1 rfl ?_
  refine ev_Vbne (tgt := 10) (c_X4_isWord hj h.1 h.2.1 h.2.2.1 h.2.2.2.1) okX4_isWord dX4_takeWord_2 mlX4_45 rfl rfl ⟨by decide, by decide⟩ rfl (Nat.le_of_ble_eq_true rfl) dX4_takeWord_5 (by decide) (fun c2 => ?_) (fun c2 => ?_)
  · exact absurd c2 hw
  · refine ev_iconst dX4_takeWord_8 ?_
    refine ev_iret dX4_takeWord_9 rfl (by first | rfl | exact ev_nb) ?_
    exact ⟨rfl, rfl⟩
theorem c_X4_takeNumber_y {b : ev_B} {σ : ev_M} {t : Tk} {lo hi : Int} (h : LK σ t) (h1 : (-2147483648 ≤ lo ∧ lo < 2147483648)) (h2 : (-2147483648 ≤ hi ∧ hi < 2147483648)) (hn : isNm (σ 35) t lo hi) : Cl b mX4_takeNumber [vR 34, vI lo, vI hi] σ (fun r τ => r = some (vI 1) ∧ LK τ (tkx (σ 35) (σ 34 1) t) ∧ frT σ τ ∧ τ 34 6 = nmt (σ 35) t) := by
  refine ev_enter okX4_takeNumber.1 (Nat.le_of_ble_eq_true rfl) ?_
  have h' := h
  obtain ⟨k1, ⟨k2, k3, k4, k5⟩, k6, k7, k8⟩ := h
  obtain ⟨n1, n2, n3⟩ := hn
  have e5 := k5 n1
  have b8 := k8 n1
  have e5' : σ 34 5 = nmt (σ 35) t := e5
  refine ev_aload_n dX4_takeNumber_0 rfl ?_
  refine ev_geti 2 2 dX4_takeNumber_1 rfl rfl flX4_32 iwX4 (by decide) rfl rfl ?_
  rw [k2]
  refine ev_iconst dX4_takeNumber_4 ?_
  refine ev_icmp_ne (tgt := 20) dX4_takeNumber_5 (by decide) (by omega) (by omega) (fun c5 => ?_) (fun c5 => ?_)
  · exact absurd n1 c5
  · refine ev_aload_n dX4_takeNumber_8 rfl ?_
    refine ev_geti 5 5 dX4_takeNumber_9 rfl rfl flX4_108 iwX4 (by decide) rfl rfl ?_
    rw [e5']
    refine ev_iload_n dX4_takeNumber_12 rfl ?_
    refine ev_iload_n dX4_takeNumber_13 rfl ?_
    refine ev_SNbne (tgt := 22) (c_X5_isWithin (by omega) (by omega) (by omega)) okX5_isWithin dX4_takeNumber_14 nlX4_111 ⟨by decide, by decide⟩ rfl (Nat.le_of_ble_eq_true rfl) dX4_takeNumber_17 (by decide) (fun c14 => ?_) (fun c14 => ?_)
    · refine ev_aload_n dX4_takeNumber_22 rfl ?_
      refine ev_aload_n dX4_takeNumber_23 rfl ?_
      refine ev_geti 5 5 dX4_takeNumber_24 rfl rfl flX4_108 iwX4 (by decide) rfl rfl ?_
      rw [e5']
      refine ev_put (ty := .int) 6 6 dX4_takeNumber_27 rfl rfl flX4_83 iwX4 tyX4_ok nmX4 (by decide) rfl rfl (by decide +kernel) rfl rfl rfl ?_
      generalize hω : mup σ 34 6 (nmt (σ 35) t) = ω
      have w : ∀ i : Int, i ≠ 6 → ω 34 i = σ 34 i := fun i hi => by rw [← hω]; simp [mup, hi]
      have w6 : ω 34 6 = nmt (σ 35) t := by rw [← hω]; simp [mup]
      have wa : ∀ a : Nat, a ≠ 34 → ω a = σ a := fun a ha => by rw [← hω, mup_ne ha]
      have w35 := wa 35 (by decide)
      have hL : LK ω t := by
        unfold LK okT TK
        rw [w 1 (by decide), w 2 (by decide), w 3 (by decide), w 4 (by decide), w 5 (by decide), w35]
        exact h'
      refine ev_aload_n dX4_takeNumber_30 rfl ?_
      refine ev_callV (c_X4_adv hL) okX4_advance dX4_takeNumber_31 mlX4_22 rfl rfl ⟨by decide, by decide⟩ rfl (Nat.le_of_ble_eq_true rfl) (fun r31 τ31 h31 => ?_)
      obtain ⟨rfl, g1, g2, g3⟩ := h31
      rw [w35, w 1 (by decide)] at g1
      refine ev_iconst dX4_takeNumber_34 ?_
      refine ev_iret dX4_takeNumber_35 rfl (by first | rfl | exact ev_nb) ?_
      exact ⟨rfl, g1, frT_tr ⟨wa, w 1 (by decide)⟩ g2, by rw [g3, w6]⟩
    · exact absurd c14 (by omega)
theorem c_X4_takeNumber_n {b : ev_B} {σ : ev_M} {t : Tk} {lo hi : Int} (h : LK σ t) (h1 : (-2147483648 ≤ lo ∧ lo < 2147483648)) (h2 : (-2147483648 ≤ hi ∧ hi < 2147483648)) (hn : ¬ isNm (σ 35) t lo hi) : CF b mX4_takeNumber [vR 34, vI lo, vI hi] σ (some (vI 0)) σ := by
  refine ev_enter okX4_takeNumber.1 (Nat.le_of_ble_eq_true rfl) ?_
  obtain ⟨k1, ⟨k2, k3, k4, k5⟩, k6, k7, k8⟩ := h
  refine ev_aload_n dX4_takeNumber_0 rfl ?_
  refine ev_geti 2 2 dX4_takeNumber_1 rfl rfl flX4_32 iwX4 (by decide) rfl rfl ?_
  rw [k2]
  refine ev_iconst dX4_takeNumber_4 ?_
  refine ev_icmp_ne (tgt := 20) dX4_takeNumber_5 (by decide) (by omega) (by omega) (fun c5 => ?_) (fun c5 => ?_)
  · refine ev_iconst dX4_takeNumber_20 ?_
    refine ev_iret dX4_takeNumber_21 rfl (by first | rfl | exact ev_nb) ?_
    exact ⟨rfl, rfl⟩
  · have e5 : σ 34 5 = nmt (σ 35) t := k5 c5
    have b8 := k8 c5
    refine ev_aload_n dX4_takeNumber_8 rfl ?_
    refine ev_geti 5 5 dX4_takeNumber_9 rfl rfl flX4_108 iwX4 (by decide) rfl rfl ?_
    rw [e5]
    refine ev_iload_n dX4_takeNumber_12 rfl ?_
    refine ev_iload_n dX4_takeNumber_13 rfl ?_
    refine ev_SNbne (tgt := 22) (c_X5_isWithin (by omega) (by omega) (by omega)) okX5_isWithin dX4_takeNumber_14 nlX4_111 ⟨by decide, by decide⟩ rfl (Nat.le_of_ble_eq_true rfl) dX4_takeNumber_17 (by decide) (fun c14 => ?_) (fun c14 => ?_)
    · exact absurd ⟨c5, c14⟩ hn
    · refine ev_iconst dX4_takeNumber_20 ?_
      refine ev_iret dX4_takeNumber_21 rfl (by first | rfl | exact ev_nb) ?_
      exact ⟨rfl, rfl⟩
theorem c_X4_nameOf {b : ev_B} {σ : ev_M} {k : Nat} (hk : k < 6) : CF b mX4_nameOf [vI k] σ (some (vR (61 + k))) σ := by
  refine ev_enter okX4_nameOf.1 (Nat.le_of_ble_eq_true rfl) ?_
  refine ev_iload_n dX4_nameOf_0 rfl ?_
  -- switch 1
  rcases (show k = 0 ∨ k = 1 ∨ k = 2 ∨ k = 3 ∨ k = 4 ∨ k = 5 by omega) with rfl | rfl | rfl | rfl | rfl | rfl
  · refine ev_tableOut (tgt := 51) dX4_nameOf_1 (by omega) (by omega) (by decide) ?_
    refine ev_ldcS (j := 0) dX4_nameOf_51 rfl rfl ?_
    refine ev_aret dX4_nameOf_53 rfl ?_
    exact ⟨rfl, rfl⟩
  · refine ev_tableIn (off := 35) (tgt := 36) dX4_nameOf_1 (by omega) (by omega) (by omega) (by decide) (by decide) ?_
    refine ev_ldcS (j := 1) dX4_nameOf_36 rfl rfl ?_
    refine ev_aret dX4_nameOf_38 rfl ?_
    exact ⟨rfl, rfl⟩
  · refine ev_tableIn (off := 38) (tgt := 39) dX4_nameOf_1 (by omega) (by omega) (by omega) (by decide) (by decide) ?_
    refine ev_ldcS (j := 2) dX4_nameOf_39 rfl rfl ?_
    refine ev_aret dX4_nameOf_41 rfl ?_
    exact ⟨rfl, rfl⟩
  · refine ev_tableIn (off := 41) (tgt := 42) dX4_nameOf_1 (by omega) (by omega) (by omega) (by decide) (by decide) ?_
    refine ev_ldcS (j := 3) dX4_nameOf_42 rfl rfl ?_
    refine ev_aret dX4_nameOf_44 rfl ?_
    exact ⟨rfl, rfl⟩
  · refine ev_tableIn (off := 44) (tgt := 45) dX4_nameOf_1 (by omega) (by omega) (by omega) (by decide) (by decide) ?_
    refine ev_ldcS (j := 4) dX4_nameOf_45 rfl rfl ?_
    refine ev_aret dX4_nameOf_47 rfl ?_
    exact ⟨rfl, rfl⟩
  · refine ev_tableIn (off := 47) (tgt := 48) dX4_nameOf_1 (by omega) (by omega) (by omega) (by decide) (by decide) ?_
    refine ev_ldcS (j := 5) dX4_nameOf_48 rfl rfl ?_
    refine ev_aret dX4_nameOf_50 rfl ?_
    exact ⟨rfl, rfl⟩
theorem c_X4_kindNamed {b : ev_B} {σ : ev_M} {t : Tk} (h : LK σ t) : CF b mX4_kindNamed [vR 34] σ (some (vI (kdN (σ 35) t))) σ := by
  refine ev_enter okX4_kindNamed.1 (Nat.le_of_ble_eq_true rfl) ?_
  have loop : ∀ (m k : Nat), k + m = 6 → Ev b mX4_kindNamed 2 [(0, vR 34), (1, vI k)] [] σ (fun r τ => r = some (vI (kdF (σ 35) t m k)) ∧ τ = σ) := by
    intro m
    induction m with
    | zero =>
      intro k hk
      refine ev_iload_n dX4_kindNamed_2 rfl ?_
      refine ev_bipush dX4_kindNamed_3 (by decide) ?_
      refine ev_icmp_ge (tgt := 27) dX4_kindNamed_5 (by decide) (by omega) (by omega) (fun c5 => ?_) (fun c5 => ?_)
      · refine ev_iconst dX4_kindNamed_27 ?_
        refine ev_iret dX4_kindNamed_28 rfl rfl ?_
        exact ⟨rfl, rfl⟩
      · exact absurd c5 (by omega)
    | succ m ih =>
      intro k hk
      unfold kdF
      refine ev_iload_n dX4_kindNamed_2 rfl ?_
      refine ev_bipush dX4_kindNamed_3 (by decide) ?_
      refine ev_icmp_ge (tgt := 27) dX4_kindNamed_5 (by decide) (by omega) (by omega) (fun c5 => ?_) (fun c5 => ?_)
      · exact absurd c5 (by omega)
      · refine ev_aload_n dX4_kindNamed_8 rfl ?_
        refine ev_iload_n dX4_kindNamed_9 rfl ?_
        refine ev_S1 (c_X4_nameOf (by omega)) okX4_nameOf dX4_kindNamed_10 mlX4_115 ⟨by decide, by decide⟩ rfl (Nat.le_of_ble_eq_true rfl) ?_
        refine ev_Vbeq (tgt := 21) (c_X4_isWord (j := k) (by omega) h.1 h.2.1 h.2.2.1 h.2.2.2.1) okX4_isWord dX4_kindNamed_13 mlX4_45 rfl rfl ⟨by decide, by decide⟩ rfl (Nat.le_of_ble_eq_true rfl) dX4_kindNamed_16 (by decide) (fun c13 => ?_) (fun c13 => ?_)
        · rw [if_neg c13]
          refine ev_iinc dX4_kindNamed_21 rfl (by decide) rfl ?_
          refine ev_goto (tgt := 2) dX4_kindNamed_24 (by decide) ?_
          exact ih (k + 1) (by omega)
        · rw [if_pos c13]
          refine ev_iload_n dX4_kindNamed_19 rfl ?_
          refine ev_iret dX4_kindNamed_20 rfl rfl ?_
          exact ⟨rfl, rfl⟩
  refine ev_iconst dX4_kindNamed_0 ?_
  refine ev_istore_n dX4_kindNamed_1 (by decide) rfl ?_
  exact loop 6 0 rfl
