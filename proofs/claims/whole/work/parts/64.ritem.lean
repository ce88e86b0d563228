/-! the model's items -/
theorem LR_word {b : ev_B} {σ : ev_M} {t : Tk} (h : LR σ t) : CF b mX6_word [vR 46] σ (some (vL (wdv (σ 55) t))) σ := by
  obtain ⟨h1, h2, h3, h4, h5, h6⟩ := h
  have t1 := h1.1
  have q := c_X6_word (b := b) h1 (by omega) (by omega) (Or.inl h2)
  have e : (if σ 46 15 = 0 ∧ isLt (bAt (σ 55) (σ 46 11) (σ 46 12)) = true then wv (σ 55) (σ 46 12) (σ 46 13 - σ 46 12).toNat else 0) = wdv (σ 55) t := by
    unfold wdv
    rw [h3, h4]
    have k : t.1 = 1 ↔ isLt (bAt (σ 55) (σ 46 11) t.2.1) = true := by
      rw [← tk1 (B := σ 55) (L := σ 46 11) (s := t.2.1), ← h5]
    by_cases z : t.1 = 1
    · rw [if_pos z, if_pos ⟨h2, k.mp z⟩]
    · rw [if_neg z, if_neg (fun y => z (k.mpr y.2))]
  rw [e] at q
  exact q
theorem WR_word {b : ev_B} {σ : ev_M} {x : Int} (h : WR σ x) : CF b mX6_word [vR 46] σ (some (vL 0)) σ := by
  obtain ⟨h1, h2, h3, h4, h5⟩ := h
  have t1 := h1.1
  have q := c_X6_word (b := b) h1 (by omega) (by omega) (Or.inr h2)
  rw [if_neg (fun y => by have := y.1; omega)] at q
  exact q
theorem LR_wd {σ : ev_M} {t : Tk} {j : Nat} (hj : j < 13) (h : LR σ t) : wdv (σ 55) t = wcn j ↔ wd (σ 55) t j = true := wdv_wd (L := σ 46 11) hj h.2.2.2.2.1 ⟨h.2.2.2.2.2.1, h.2.2.2.2.2.2.1⟩
theorem wdv_bd {B : Int → Int} {t : Tk} : -9223372036854775808 ≤ wdv B t ∧ wdv B t < 9223372036854775808 := by
  unfold wdv
  split
  · exact wv_bd _
  · omega
theorem c_X6_kindHere {b : ev_B} {σ : ev_M} {t : Tk} (h : LR σ t) : CF b mX6_kindHere [vR 46] σ (some (vI (kdN (σ 55) t))) σ := by
  refine ev_enter okX6_kindHere.1 (Nat.le_of_ble_eq_true rfl) ?_
  have w := fun j hj => LR_wd (j := j) hj h
  have wb := wdv_bd (B := σ 55) (t := t)
  have wc := wcn_all.1
  have e0 := w 0 (by decide)
  have e1 := w 1 (by decide)
  have e2 := w 2 (by decide)
  have e3 := w 3 (by decide)
  have e4 := w 4 (by decide)
  have e5 := w 5 (by decide)
  rw [wc.1] at e0
  rw [wc.2.1] at e1
  rw [wc.2.2.1] at e2
  rw [wc.2.2.2.1] at e3
  rw [wc.2.2.2.2.1] at e4
  rw [wc.2.2.2.2.2] at e5
  have wv := LR_word (b := b) h
  generalize wdv (σ 55) t = v at *
  have K : kdN (σ 55) t = if v = 647647410 then 0 else if v = 2190877894 then 1 else if v = 12940714148 then 2 else if v = 136228 then 3 else if v = 394393 then 4 else if v = 674915359922 then 5 else -1 := by
    show (if wd (σ 55) t 0 = true then ((0 : Nat) : Int) else if wd (σ 55) t 1 = true then ((1 : Nat) : Int) else if wd (σ 55) t 2 = true then ((2 : Nat) : Int) else if wd (σ 55) t 3 = true then ((3 : Nat) : Int) else if wd (σ 55) t 4 = true then ((4 : Nat) : Int) else if wd (σ 55) t 5 = true then ((5 : Nat) : Int) else -1) = _
    simp only [← e0, ← e1, ← e2, ← e3, ← e4, ← e5]
    rfl
  rw [K]
  refine ev_aload_n dX6_kindHere_0 rfl ?_
  refine ev_V1 wv okX6_word dX6_kindHere_1 mlX6_255 rfl rfl ⟨by decide, by decide⟩ rfl (Nat.le_of_ble_eq_true rfl) ?_
  refine ev_lstore_n dX6_kindHere_4 (by decide) rfl ?_
  refine ev_lload_n dX6_kindHere_5 rfl ?_
  refine ev_ldc2 (z := 647647410) dX6_kindHere_6 klX6_259 (by decide) ?_
  refine ev_lc_ne (tgt := 17) dX6_kindHere_9 dX6_kindHere_10 (by decide) (by omega) (by omega) (fun c9 => ?_) (fun c9 => ?_)
  · rw [if_neg c9]
    refine ev_lload_n dX6_kindHere_17 rfl ?_
    refine ev_ldc2 (z := 2190877894) dX6_kindHere_18 klX6_261 (by decide) ?_
    refine ev_lc_ne (tgt := 29) dX6_kindHere_21 dX6_kindHere_22 (by decide) (by omega) (by omega) (fun c21 => ?_) (fun c21 => ?_)
    · rw [if_neg c21]
      refine ev_lload_n dX6_kindHere_29 rfl ?_
      refine ev_ldc2 (z := 12940714148) dX6_kindHere_30 klX6_263 (by decide) ?_
      refine ev_lc_ne (tgt := 41) dX6_kindHere_33 dX6_kindHere_34 (by decide) (by omega) (by omega) (fun c33 => ?_) (fun c33 => ?_)
      · rw [if_neg c33]
        refine ev_lload_n dX6_kindHere_41 rfl ?_
        refine ev_ldc2 (z := 136228) dX6_kindHere_42 klX6_265 (by decide) ?_
        refine ev_lc_ne (tgt := 53) dX6_kindHere_45 dX6_kindHere_46 (by decide) (by omega) (by omega) (fun c45 => ?_) (fun c45 => ?_)
        · rw [if_neg c45]
          refine ev_lload_n dX6_kindHere_53 rfl ?_
          refine ev_ldc2 (z := 394393) dX6_kindHere_54 klX6_267 (by decide) ?_
          refine ev_lc_ne (tgt := 65) dX6_kindHere_57 dX6_kindHere_58 (by decide) (by omega) (by omega) (fun c57 => ?_) (fun c57 => ?_)
          · rw [if_neg c57]
            refine ev_lload_n dX6_kindHere_65 rfl ?_
            refine ev_ldc2 (z := 674915359922) dX6_kindHere_66 klX6_269 (by decide) ?_
            refine ev_lc_ne (tgt := 77) dX6_kindHere_69 dX6_kindHere_70 (by decide) (by omega) (by omega) (fun c69 => ?_) (fun c69 => ?_)
            · rw [if_neg c69]
              refine ev_iconst dX6_kindHere_77 ?_
              refine ev_iret dX6_kindHere_78 rfl rfl ?_
              exact ⟨rfl, rfl⟩
            · rw [if_pos c69]
              refine ev_iconst dX6_kindHere_73 ?_
              refine ev_goto (tgt := 78) dX6_kindHere_74 (by decide) ?_
              refine ev_iret dX6_kindHere_78 rfl rfl ?_
              exact ⟨rfl, rfl⟩
          · rw [if_pos c57]
            refine ev_iconst dX6_kindHere_61 ?_
            refine ev_goto (tgt := 78) dX6_kindHere_62 (by decide) ?_
            refine ev_iret dX6_kindHere_78 rfl rfl ?_
            exact ⟨rfl, rfl⟩
        · rw [if_pos c45]
          refine ev_iconst dX6_kindHere_49 ?_
          refine ev_goto (tgt := 78) dX6_kindHere_50 (by decide) ?_
          refine ev_iret dX6_kindHere_78 rfl rfl ?_
          exact ⟨rfl, rfl⟩
      · rw [if_pos c33]
        refine ev_iconst dX6_kindHere_37 ?_
        refine ev_goto (tgt := 78) dX6_kindHere_38 (by decide) ?_
        refine ev_iret dX6_kindHere_78 rfl rfl ?_
        exact ⟨rfl, rfl⟩
    · rw [if_pos c21]
      refine ev_iconst dX6_kindHere_25 ?_
      refine ev_goto (tgt := 78) dX6_kindHere_26 (by decide) ?_
      refine ev_iret dX6_kindHere_78 rfl rfl ?_
      exact ⟨rfl, rfl⟩
  · rw [if_pos c9]
    refine ev_iconst dX6_kindHere_13 ?_
    refine ev_goto (tgt := 78) dX6_kindHere_14 (by decide) ?_
    refine ev_iret dX6_kindHere_78 rfl rfl ?_
    exact ⟨rfl, rfl⟩
