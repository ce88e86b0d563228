/-! wheat, an item, a tape, and the class's plain -/
def whS (τ : ev_M) (x : Nat) (d : Int) (a c v : Int) : ev_M := fun y i => if y = x ∧ d + a ≤ i ∧ i < d + c then v else τ y i
theorem whS_0 {τ : ev_M} {x : Nat} {d a v : Int} : whS τ x d a a v = τ := by funext y i; unfold whS; rw [if_neg (by omega)]
theorem whS_s {τ : ev_M} {x : Nat} {d a c v : Int} (h : a ≤ c) : mup (whS τ x d a c v) x (d + c) v = whS τ x d a (c + 1) v := by
  funext y i
  unfold mup whS
  by_cases e : y = x ∧ i = d + c
  · rw [if_pos e, if_pos (by omega)]
  · rw [if_neg e]
    by_cases w : y = x ∧ d + a ≤ i ∧ i < d + c
    · rw [if_pos w, if_pos (by omega)]
    · rw [if_neg w, if_neg (by omega)]
theorem whS_ne {τ : ev_M} {x : Nat} {d a c v : Int} {y : Nat} (h : y ≠ x) : whS τ x d a c v y = τ y := by
  funext i; unfold whS; rw [if_neg (fun w => h w.1)]
theorem wn_whS {τ : ev_M} {p : Nat} {a e v : Int} : wn (whS τ (p + 1) 0 a (e + 1) v) p = whm (wn τ p) a e v := by
  funext j i
  unfold wn whS whm
  by_cases hj : j < 9
  · rw [if_pos hj]
    by_cases w : j = 1 ∧ a ≤ i ∧ i ≤ e
    · rw [if_pos (by omega), if_pos w]
    · rw [if_neg (by omega), if_neg w]; exact (if_pos hj).symm
  · rw [if_neg hj, if_neg (by omega)]; exact (if_neg hj).symm
theorem c_X4_takeWheat {b : ev_B} {σ : ev_M} {p : Nat} {t : Tk} (hp : isP p) (h : LK σ t) : Cl b mX4_takeWheat [vR 34, vR p] σ (PR p σ (itWht (σ 35) (σ 34 1) (wn σ p) t)) := by
  refine ev_enter okX4_takeWheat.1 (Nat.le_of_ble_eq_true rfl) ?_
  have hb : p ≤ 19 := by rcases hp with rfl | rfl | rfl <;> omega
  unfold itWht itWh1 itWh2
  generalize hB : σ 35 = B
  generalize hL : σ 34 1 = L
  have loop : ∀ (τ : ev_M) (t : Tk) (a e v : Int), LK τ t → frT σ τ → 0 ≤ a → a ≤ e → e ≤ 47 → ∀ (m : Nat) (c : Int) , a ≤ c → c + m = e + 1 → Ev b mX4_takeWheat 71 [(0, vR 34), (1, vR p), (2, vI a), (3, vI v), (4, vI e), (5, vI c)] [] (whS τ (p + 1) 0 a c v) (PR p σ (.inr (t, whm (wn σ p) a e v))) := by
    intro τ t a e v hl fr h1 h2 h3 m
    induction m with
    | zero =>
      intro c h4 h5
      refine ev_iload dX4_takeWheat_71 rfl ?_
      refine ev_iload dX4_takeWheat_73 rfl ?_
      refine ev_icmp_gt (tgt := 92) dX4_takeWheat_75 (by decide) (by omega) (by omega) (fun c75 => ?_) (fun c75 => ?_)
      · refine ev_iconst dX4_takeWheat_92 ?_
        refine ev_iret dX4_takeWheat_93 rfl (by first | rfl | exact ev_nb) ?_
        have ec : c = e + 1 := by omega
        subst ec
        refine ⟨frTP_tr (frTP_T fr) ⟨fun x _ hx => whS_ne (by omega), by rw [whS_ne (by omega)]⟩, rfl, LK_fr hl (whS_ne (by omega)) (whS_ne (by omega)), ?_⟩
        rw [wn_whS, wn_T hp fr]
      · exact absurd c75 (by omega)
    | succ m ih =>
      intro c h4 h5
      refine ev_iload dX4_takeWheat_71 rfl ?_
      refine ev_iload dX4_takeWheat_73 rfl ?_
      refine ev_icmp_gt (tgt := 92) dX4_takeWheat_75 (by decide) (by omega) (by omega) (fun c75 => ?_) (fun c75 => ?_)
      · exact absurd c75 (by omega)
      · refine ev_aload_n dX4_takeWheat_78 rfl ?_
        refine ev_getr 0 dX4_takeWheat_79 (pk0 hp) rfl flX4_102 iwX2 (by decide) rfl ?_
        refine ev_iload dX4_takeWheat_82 rfl ?_
        refine ev_iload_n dX4_takeWheat_84 rfl ?_
        refine ev_iast dX4_takeWheat_85 (pk1 hp) (by omega) ?_
        refine ev_iinc dX4_takeWheat_86 rfl (by decide) rfl ?_
        refine ev_goto (tgt := 71) dX4_takeWheat_89 (by decide) ?_
        have z := whS_s (τ := τ) (x := p + 1) (d := 0) (v := v) h4
        rw [Int.zero_add] at z
        rw [z]
        exact ih (c + 1) (by omega) (by omega)
  refine ev_aload_n dX4_takeWheat_0 rfl ?_
  refine ev_callV (tA h hB hL) okX4_advance dX4_takeWheat_1 mlX4_22 rfl rfl ⟨by decide, by decide⟩ rfl (Nat.le_of_ble_eq_true rfl) (fun r1 τ1 h1 => ?_)
  obtain ⟨rfl, a1, a2, a3, a4, a5⟩ := h1
  generalize tkx B L t = t1 at a1 ⊢
  by_cases hn : isNm B t1 0 47
  · rw [if_pos hn]
    refine ev_aload_n dX4_takeWheat_4 rfl ?_
    refine ev_iconst dX4_takeWheat_5 ?_
    refine ev_bipush dX4_takeWheat_6 (by decide) ?_
    refine ev_callV (tN_y a1 a4 a5 (by omega) (by omega) hn) okX4_takeNumber dX4_takeWheat_8 mlX4_76 rfl rfl ⟨by decide, by decide⟩ rfl (Nat.le_of_ble_eq_true rfl) (fun r8 τ8 h8 => ?_)
    obtain ⟨rfl, k1, k2, k3, k4, k5⟩ := h8
    refine ev_if_ne (tgt := 16) dX4_takeWheat_11 (by decide) (by omega) (fun c11 => ?_) (fun c11 => ?_)
    · refine ev_aload_n dX4_takeWheat_16 rfl ?_
      refine ev_geti 6 6 dX4_takeWheat_17 rfl rfl flX4_83 iwX4 (by decide) rfl rfl ?_
      rw [k3]
      have hn2 := hn.2
      generalize hv : nmt B t1 = o at hn2 ⊢
      generalize tkx B L t1 = t2 at k1 ⊢
      by_cases hm : isNm B t2 0 99
      · rw [if_pos hm]
        refine ev_istore_n dX4_takeWheat_20 (by decide) rfl ?_
        refine ev_aload_n dX4_takeWheat_21 rfl ?_
        refine ev_iconst dX4_takeWheat_22 ?_
        refine ev_bipush dX4_takeWheat_23 (by decide) ?_
        refine ev_callV (tN_y k1 k4 k5 (by omega) (by omega) hm) okX4_takeNumber dX4_takeWheat_25 mlX4_76 rfl rfl ⟨by decide, by decide⟩ rfl (Nat.le_of_ble_eq_true rfl) (fun r25 τ25 h25 => ?_)
        obtain ⟨rfl, m1, m2, m3, m4, m5⟩ := h25
        have f2 := frT_tr a2 (frT_tr k2 m2)
        refine ev_if_ne (tgt := 33) dX4_takeWheat_28 (by decide) (by omega) (fun c28 => ?_) (fun c28 => ?_)
        · refine ev_aload_n dX4_takeWheat_33 rfl ?_
          refine ev_geti 6 6 dX4_takeWheat_34 rfl rfl flX4_83 iwX4 (by decide) rfl rfl ?_
          rw [m3]
          generalize hv : nmt B t2 = v
          generalize tkx B L t2 = t3 at m1 ⊢
          by_cases hw : wd B t3 11 = true
          · rw [if_pos hw]
            refine ev_istore_n dX4_takeWheat_37 (by decide) rfl ?_
            refine ev_iload_n dX4_takeWheat_38 rfl ?_
            refine ev_istore dX4_takeWheat_39 (by decide) rfl ?_
            refine ev_aload_n dX4_takeWheat_41 rfl ?_
            refine ev_ldcS (j := 11) dX4_takeWheat_42 rfl rfl ?_
            refine ev_callV (tW_y 11 (by decide) m1 m4 m5 hw) okX4_takeWord dX4_takeWheat_44 mlX4_73 rfl rfl ⟨by decide, by decide⟩ rfl (Nat.le_of_ble_eq_true rfl) (fun r44 τ44 h44 => ?_)
            obtain ⟨rfl, g1, g2, g3, g4, g5⟩ := h44
            generalize tkx B L t3 = t4 at g1 ⊢
            refine ev_if_eq (tgt := 68) dX4_takeWheat_47 (by decide) (by omega) (fun c47 => ?_) (fun c47 => ?_)
            · exact absurd c47 (by omega)
            · by_cases hq : isNm B t4 o 47
              · rw [if_pos hq]
                refine ev_aload_n dX4_takeWheat_50 rfl ?_
                refine ev_iload_n dX4_takeWheat_51 rfl ?_
                refine ev_bipush dX4_takeWheat_52 (by decide) ?_
                refine ev_callV (tN_y g1 g4 g5 (by omega) (by omega) hq) okX4_takeNumber dX4_takeWheat_54 mlX4_76 rfl rfl ⟨by decide, by decide⟩ rfl (Nat.le_of_ble_eq_true rfl) (fun r54 τ54 h54 => ?_)
                obtain ⟨rfl, q1, q2, q3, q4, q5⟩ := h54
                refine ev_if_ne (tgt := 62) dX4_takeWheat_57 (by decide) (by omega) (fun c57 => ?_) (fun c57 => ?_)
                · refine ev_aload_n dX4_takeWheat_62 rfl ?_
                  refine ev_geti 6 6 dX4_takeWheat_63 rfl rfl flX4_83 iwX4 (by decide) rfl rfl ?_
                  rw [q3]
                  refine ev_istore dX4_takeWheat_66 (by decide) rfl ?_
                  refine ev_iload_n dX4_takeWheat_68 rfl ?_
                  refine ev_istore dX4_takeWheat_69 (by decide) rfl ?_
                  have hq2 := hq.2
                  have l := loop τ54 (tkx B L t4) o (nmt B t4) v q1 (frT_tr f2 (frT_tr g2 q2)) (by omega) (by omega) (by omega) (nmt B t4 + 1 - o).toNat o (by omega) (by omega)
                  rw [whS_0] at l
                  exact l
                · exact absurd c57 (by omega)
              · rw [if_neg hq]
                refine ev_aload_n dX4_takeWheat_50 rfl ?_
                refine ev_iload_n dX4_takeWheat_51 rfl ?_
                refine ev_bipush dX4_takeWheat_52 (by decide) ?_
                refine ev_V1 (tN_n g1 g4 (by omega) (by omega) hq) okX4_takeNumber dX4_takeWheat_54 mlX4_76 rfl rfl ⟨by decide, by decide⟩ rfl (Nat.le_of_ble_eq_true rfl) ?_
                refine ev_if_ne (tgt := 62) dX4_takeWheat_57 (by decide) (by omega) (fun c57 => ?_) (fun c57 => ?_)
                · exact absurd c57 (by omega)
                · refine ev_iconst dX4_takeWheat_60 ?_
                  refine ev_iret dX4_takeWheat_61 rfl (by first | rfl | exact ev_nb) ?_
                  exact ⟨frTP_T (frT_tr f2 g2), rfl, LK_s g1, by have := LK_x g1; omega⟩
          · rw [if_neg hw]
            refine ev_istore_n dX4_takeWheat_37 (by decide) rfl ?_
            refine ev_iload_n dX4_takeWheat_38 rfl ?_
            refine ev_istore dX4_takeWheat_39 (by decide) rfl ?_
            refine ev_aload_n dX4_takeWheat_41 rfl ?_
            refine ev_ldcS (j := 11) dX4_takeWheat_42 rfl rfl ?_
            refine ev_V1 (tW_n 11 (by decide) m1 m4 hw) okX4_takeWord dX4_takeWheat_44 mlX4_73 rfl rfl ⟨by decide, by decide⟩ rfl (Nat.le_of_ble_eq_true rfl) ?_
            refine ev_if_eq (tgt := 68) dX4_takeWheat_47 (by decide) (by omega) (fun c47 => ?_) (fun c47 => ?_)
            · refine ev_iload_n dX4_takeWheat_68 rfl ?_
              refine ev_istore dX4_takeWheat_69 (by decide) rfl ?_
              have l := loop τ25 t3 o o v m1 f2 (by omega) (by omega) (by omega) 1 o (by omega) (by omega)
              rw [whS_0] at l
              exact l
            · exact absurd c47 (by omega)
        · exact absurd c28 (by omega)
      · rw [if_neg hm]
        refine ev_istore_n dX4_takeWheat_20 (by decide) rfl ?_
        refine ev_aload_n dX4_takeWheat_21 rfl ?_
        refine ev_iconst dX4_takeWheat_22 ?_
        refine ev_bipush dX4_takeWheat_23 (by decide) ?_
        refine ev_V1 (tN_n k1 k4 (by omega) (by omega) hm) okX4_takeNumber dX4_takeWheat_25 mlX4_76 rfl rfl ⟨by decide, by decide⟩ rfl (Nat.le_of_ble_eq_true rfl) ?_
        refine ev_if_ne (tgt := 33) dX4_takeWheat_28 (by decide) (by omega) (fun c28 => ?_) (fun c28 => ?_)
        · exact absurd c28 (by omega)
        · refine ev_iconst dX4_takeWheat_31 ?_
          refine ev_iret dX4_takeWheat_32 rfl (by first | rfl | exact ev_nb) ?_
          exact ⟨frTP_T (frT_tr a2 k2), rfl, LK_s k1, by have := LK_x k1; omega⟩
    · exact absurd c11 (by omega)
  · rw [if_neg hn]
    refine ev_aload_n dX4_takeWheat_4 rfl ?_
    refine ev_iconst dX4_takeWheat_5 ?_
    refine ev_bipush dX4_takeWheat_6 (by decide) ?_
    refine ev_V1 (tN_n a1 a4 (by omega) (by omega) hn) okX4_takeNumber dX4_takeWheat_8 mlX4_76 rfl rfl ⟨by decide, by decide⟩ rfl (Nat.le_of_ble_eq_true rfl) ?_
    refine ev_if_ne (tgt := 16) dX4_takeWheat_11 (by decide) (by omega) (fun c11 => ?_) (fun c11 => ?_)
    · exact absurd c11 (by omega)
    · refine ev_iconst dX4_takeWheat_14 ?_
      refine ev_iret dX4_takeWheat_15 rfl (by first | rfl | exact ev_nb) ?_
      exact ⟨frTP_T a2, rfl, LK_s a1, by have := LK_x a1; omega⟩
theorem PR_01 {p : Nat} {σ : ev_M} {res : Rs} {r : Option ev_V} {τ : ev_M} (h : PR p σ res r τ) : r = some (vI 0) ∨ r = some (vI 1) := by
  unfold PR at h
  match res, h with
  | .inl x, h => exact Or.inl h.2.1
  | .inr (t, P), h => exact Or.inr h.2.1
theorem nb01 {r : Option ev_V} (h : r = some (vI 0) ∨ r = some (vI 1)) : ∃ x : Int, r = some (vI x) ∧ (x = 0 ∨ x = 1) := by
  rcases h with h | h
  · exact ⟨0, h, Or.inl rfl⟩
  · exact ⟨1, h, Or.inr rfl⟩
theorem c_X4_takeItem {b : ev_B} {σ : ev_M} {p : Nat} {t : Tk} (hp : isP p) (h : LK σ t) (H : okP (wn σ p)) : Cl b mX4_takeItem [vR 34, vR p] σ (PR p σ (itm (σ 35) (σ 34 1) (wn σ p) t)) := by
  refine ev_enter okX4_takeItem.1 (Nat.le_of_ble_eq_true rfl) ?_
  have kb := kdF_bd (B := σ 35) (t := t) 6 0
  have kb2 : -1 ≤ kdN (σ 35) t ∧ kdN (σ 35) t < 6 := kb
  unfold itm
  refine ev_aload_n dX4_takeItem_0 rfl ?_
  refine ev_V1 (c_X4_kindNamed h) okX4_kindNamed dX4_takeItem_1 mlX4_35 rfl rfl ⟨by decide, by decide⟩ rfl (Nat.le_of_ble_eq_true rfl) ?_
  refine ev_istore_n dX4_takeItem_4 (by decide) rfl ?_
  refine ev_iload_n dX4_takeItem_5 rfl ?_
  refine ev_if_lt (tgt := 16) dX4_takeItem_6 (by decide) (by omega) (fun c6 => ?_) (fun c6 => ?_)
  · rw [if_neg (by omega)]
    refine ev_aload_n dX4_takeItem_16 rfl ?_
    refine ev_ldcS (j := 8) dX4_takeItem_17 rfl rfl ?_
    refine ev_Vbeq (tgt := 31) (c_X4_isWord (j := 8) (by decide) h.1 h.2.1 h.2.2.1 h.2.2.2.1) okX4_isWord dX4_takeItem_19 mlX4_45 rfl rfl ⟨by decide, by decide⟩ rfl (Nat.le_of_ble_eq_true rfl) dX4_takeItem_22 (by decide) (fun c19 => ?_) (fun c19 => ?_)
    · rw [if_neg c19]
      refine ev_aload_n dX4_takeItem_31 rfl ?_
      refine ev_ldcS (j := 10) dX4_takeItem_32 rfl rfl ?_
      refine ev_Vbeq (tgt := 46) (c_X4_isWord (j := 10) (by decide) h.1 h.2.1 h.2.2.1 h.2.2.2.1) okX4_isWord dX4_takeItem_34 mlX4_45 rfl rfl ⟨by decide, by decide⟩ rfl (Nat.le_of_ble_eq_true rfl) dX4_takeItem_37 (by decide) (fun c34 => ?_) (fun c34 => ?_)
      · rw [if_neg c34]
        refine ev_aload_n dX4_takeItem_46 rfl ?_
        refine ev_ldcS (j := 12) dX4_takeItem_47 rfl rfl ?_
        refine ev_Vbeq (tgt := 67) (c_X4_isWord (j := 12) (by decide) h.1 h.2.1 h.2.2.1 h.2.2.2.1) okX4_isWord dX4_takeItem_49 mlX4_45 rfl rfl ⟨by decide, by decide⟩ rfl (Nat.le_of_ble_eq_true rfl) dX4_takeItem_52 (by decide) (fun c49 => ?_) (fun c49 => ?_)
        · rw [if_neg c49]
          refine ev_iconst dX4_takeItem_67 ?_
          refine ev_iret dX4_takeItem_68 rfl (by first | rfl | exact ev_nb) ?_
          exact ⟨frTP_rf, rfl, LK_s h, LK_x h⟩
        · rw [if_pos c49]
          refine ev_aload_n dX4_takeItem_55 rfl ?_
          refine ev_aload_n dX4_takeItem_56 rfl ?_
          refine ev_callV (c_X4_takeCrows hp h) okX4_takeCrows dX4_takeItem_57 mlX4_59 rfl rfl ⟨by decide, by decide⟩ rfl (Nat.le_of_ble_eq_true rfl) (fun r57 τ57 h57 => ?_)
          obtain ⟨x, rfl, hx⟩ := nb01 (PR_01 h57)
          refine ev_if_eq (tgt := 67) dX4_takeItem_60 (by decide) (by omega) (fun c60 => ?_) (fun c60 => ?_)
          · subst c60
            refine ev_iconst dX4_takeItem_67 ?_
            refine ev_iret dX4_takeItem_68 rfl (by first | rfl | exact ev_nb) ?_
            exact h57
          · rcases hx with rfl | rfl
            · exact absurd rfl c60
            · refine ev_iconst dX4_takeItem_63 ?_
              refine ev_goto (tgt := 68) dX4_takeItem_64 (by decide) ?_
              refine ev_iret dX4_takeItem_68 rfl (by first | rfl | exact ev_nb) ?_
              exact h57
      · rw [if_pos c34]
        refine ev_aload_n dX4_takeItem_40 rfl ?_
        refine ev_aload_n dX4_takeItem_41 rfl ?_
        refine ev_callV (c_X4_takeWheat hp h) okX4_takeWheat dX4_takeItem_42 mlX4_54 rfl rfl ⟨by decide, by decide⟩ rfl (Nat.le_of_ble_eq_true rfl) (fun r42 τ42 h42 => ?_)
        obtain ⟨x, rfl, hx⟩ := nb01 (PR_01 h42)
        refine ev_iret dX4_takeItem_45 rfl (by rcases hx with rfl | rfl <;> rfl) ?_
        exact h42
    · rw [if_pos c19]
      refine ev_aload_n dX4_takeItem_25 rfl ?_
      refine ev_aload_n dX4_takeItem_26 rfl ?_
      refine ev_callV (c_X4_takeLikeness hp h H) okX4_takeLikeness dX4_takeItem_27 mlX4_49 rfl rfl ⟨by decide, by decide⟩ rfl (Nat.le_of_ble_eq_true rfl) (fun r27 τ27 h27 => ?_)
      obtain ⟨x, rfl, hx⟩ := nb01 (PR_01 h27)
      refine ev_iret dX4_takeItem_30 rfl (by rcases hx with rfl | rfl <;> rfl) ?_
      exact h27
  · rw [if_pos (by omega)]
    refine ev_aload_n dX4_takeItem_9 rfl ?_
    refine ev_aload_n dX4_takeItem_10 rfl ?_
    refine ev_iload_n dX4_takeItem_11 rfl ?_
    refine ev_callV (c_X4_takeSitter hp h H) okX4_takeSitter dX4_takeItem_12 mlX4_39 rfl rfl ⟨by decide, by decide⟩ rfl (Nat.le_of_ble_eq_true rfl) (fun r12 τ12 h12 => ?_)
    obtain ⟨x, rfl, hx⟩ := nb01 (PR_01 h12)
    refine ev_iret dX4_takeItem_15 rfl (by rcases hx with rfl | rfl <;> rfl) ?_
    exact h12

theorem eqP_addS {P P' : ev_M} {k : Int} (h : eqP P' P) : eqP (addS P' 0 k) (addS P 0 k) := by
  obtain ⟨g1, g2, g3, g4, g5, g6, g7⟩ := h
  unfold addS
  rw [g3, g2]
  have st : ∀ a x, P' a x = P a x → mup (mup (mup (mup (mup P' (0 + 2) (P 0 3) k) (0 + 3) (P 0 3) 10) (0 + 4) (P 0 3) 5) (0 + 5) (P 0 3) (P 0 2)) 0 3 (P 0 3 + 1) a x = mup (mup (mup (mup (mup P (0 + 2) (P 0 3) k) (0 + 3) (P 0 3) 10) (0 + 4) (P 0 3) 5) (0 + 5) (P 0 3) (P 0 2)) 0 3 (P 0 3 + 1) a x := fun a x h => by unfold mup; rw [h]
  refine ⟨st _ _ g1, st _ _ g2, st _ _ g3, st _ _ g4, fun c hc => st _ _ (g5 c hc), fun x hx => ?_, fun l hl => ?_⟩
  · have hx2 : 0 ≤ x ∧ x < P 0 3 + 1 := by simpa [mup] using hx
    by_cases e : x = P 0 3
    · subst e; simp [mup]
    · have q := g6 x (by omega)
      exact ⟨st _ _ q.1, st _ _ q.2.1, st _ _ q.2.2.1, st _ _ q.2.2.2⟩
  · have hl2 : 0 ≤ l ∧ l < P 0 8 := by simpa [mup] using hl
    have q := g7 l hl2
    exact ⟨st _ _ q.1, st _ _ q.2.1, st _ _ q.2.2⟩
theorem okP_addS {P : ev_M} {k : Int} (H : okP P) (hk : 0 ≤ k ∧ k ≤ 5) (h6 : P 0 3 < 6) : okP (addS P 0 k) := by
  obtain ⟨h1, h2, h3, h4, h5, h7, h8⟩ := H
  have e3 : addS P 0 k 0 3 = P 0 3 + 1 := by simp [addS, mup]
  have e8 : addS P 0 k 0 8 = P 0 8 := by simp [addS, mup]
  refine ⟨by simpa [addS, mup] using h1, by simpa [addS, mup] using h2, by rw [e3]; omega, by rw [e8]; exact h4, fun c hc => by simpa [addS, mup] using h5 c hc, fun x hx => ?_, fun l hl => ?_⟩
  · rw [e3] at hx
    by_cases e : x = P 0 3
    · subst e
      have z : addS P 0 k 2 (P 0 3) = k ∧ addS P 0 k 3 (P 0 3) = 10 ∧ addS P 0 k 4 (P 0 3) = 5 ∧ addS P 0 k 5 (P 0 3) = P 0 2 := by simp [addS, mup]
      rw [z.1, z.2.1, z.2.2.1, z.2.2.2]
      omega
    · have q := h7 x (by omega)
      simpa [addS, mup, e] using q
  · rw [e8] at hl
    have q := h8 l hl
    rw [e3]
    have z : addS P 0 k 6 l = P 6 l ∧ addS P 0 k 7 l = P 7 l ∧ addS P 0 k 8 l = P 8 l := by simp [addS, mup]
    rw [z.1, z.2.1, z.2.2]
    omega
theorem eqP_addL {P P' : ev_M} {o c : Int} (h : eqP P' P) : eqP (addL P' 0 o c) (addL P 0 o c) := by
  obtain ⟨g1, g2, g3, g4, g5, g6, g7⟩ := h
  unfold addL
  rw [g4]
  have st : ∀ a x, P' a x = P a x → mup (mup (mup (mup P' (0 + 6) (P 0 8) c) (0 + 7) (P 0 8) o) (0 + 8) (P 0 8) 0) 0 8 (P 0 8 + 1) a x = mup (mup (mup (mup P (0 + 6) (P 0 8) c) (0 + 7) (P 0 8) o) (0 + 8) (P 0 8) 0) 0 8 (P 0 8 + 1) a x := fun a x h => by unfold mup; rw [h]
  refine ⟨st _ _ g1, st _ _ g2, st _ _ g3, st _ _ g4, fun c hc => st _ _ (g5 c hc), fun x hx => ?_, fun l hl => ?_⟩
  · have hx2 : 0 ≤ x ∧ x < P 0 3 := by simpa [mup] using hx
    have q := g6 x (by omega)
    exact ⟨st _ _ q.1, st _ _ q.2.1, st _ _ q.2.2.1, st _ _ q.2.2.2⟩
  · have hl2 : 0 ≤ l ∧ l < P 0 8 + 1 := by simpa [mup] using hl
    by_cases e : l = P 0 8
    · subst e; simp [mup]
    · have q := g7 l (by omega)
      exact ⟨st _ _ q.1, st _ _ q.2.1, st _ _ q.2.2⟩
theorem okP_addL {P : ev_M} {o c : Int} (H : okP P) (ho : 0 ≤ o ∧ o < P 0 3) (hc : 0 ≤ c ∧ c < 48) (h6 : P 0 8 < 8) : okP (addL P 0 o c) := by
  obtain ⟨h1, h2, h3, h4, h5, h7, h8⟩ := H
  have e3 : addL P 0 o c 0 3 = P 0 3 := by simp [addL, mup]
  have e8 : addL P 0 o c 0 8 = P 0 8 + 1 := by simp [addL, mup]
  refine ⟨by simpa [addL, mup] using h1, by simpa [addL, mup] using h2, by rw [e3]; omega, by rw [e8]; omega, fun c hc => by simpa [addL, mup] using h5 c hc, fun x hx => ?_, fun l hl => ?_⟩
  · rw [e3] at hx
    have q := h7 x (by omega)
    simpa [addL, mup] using q
  · rw [e8] at hl
    rw [e3]
    by_cases e : l = P 0 8
    · subst e
      have z : addL P 0 o c 6 (P 0 8) = c ∧ addL P 0 o c 7 (P 0 8) = o ∧ addL P 0 o c 8 (P 0 8) = 0 := by simp [addL, mup]
      rw [z.1, z.2.1, z.2.2]
      omega
    · have q := h8 l (by omega)
      have z : addL P 0 o c 6 l = P 6 l ∧ addL P 0 o c 7 l = P 7 l ∧ addL P 0 o c 8 l = P 8 l := by simp [addL, mup, e]
      rw [z.1, z.2.1, z.2.2]
      exact q
theorem okP_mup4 {P : ev_M} {l v : Int} (H : okP P) (hv : 0 ≤ v ∧ v ≤ 99) : okP (mup P 4 l v) := by
  obtain ⟨h1, h2, h3, h4, h5, h6, h7⟩ := H
  refine ⟨h1, h2, h3, h4, h5, fun x hx => ?_, h7⟩
  have q := h6 x hx
  by_cases e : x = l
  · subst e
    have z : mup P 4 x v 4 x = v := mup_at
    exact ⟨q.1, q.2.1, by rw [z]; exact hv, q.2.2.2⟩
  · have z : mup P 4 l v 4 x = P 4 x := mup_off e
    exact ⟨q.1, q.2.1, by rw [z]; exact q.2.2.1, q.2.2.2⟩
theorem eqP_whm {P P' : ev_M} {a e v : Int} (h : eqP P' P) : eqP (whm P' a e v) (whm P a e v) := by
  obtain ⟨g1, g2, g3, g4, g5, g6, g7⟩ := h
  refine ⟨g1, g2, g3, g4, fun c hc => ?_, g6, g7⟩
  unfold whm
  rw [g5 c hc]
theorem okP_whm {P : ev_M} {a e v : Int} (H : okP P) (hv : 0 ≤ v ∧ v ≤ 99) : okP (whm P a e v) := by
  obtain ⟨h1, h2, h3, h4, h5, h6, h7⟩ := H
  refine ⟨h1, h2, h3, h4, fun c hc => ?_, h6, h7⟩
  have := h5 c hc
  unfold whm
  split
  · exact hv
  · exact this
theorem eqP_mup0 {P P' : ev_M} {v : Int} (h : eqP P' P) : eqP (mup P' 0 1 v) (mup P 0 1 v) := by
  obtain ⟨g1, g2, g3, g4, g5, g6, g7⟩ := h
  exact ⟨rfl, g2, g3, g4, g5, g6, g7⟩
theorem okP_mup0 {P : ev_M} {v : Int} (H : okP P) (hv : 0 ≤ v ∧ v ≤ 20) : okP (mup P 0 1 v) := by
  obtain ⟨h1, h2, h3, h4, h5, h6, h7⟩ := H
  exact ⟨hv, h2, h3, h4, h5, h6, h7⟩
def RQ : Rs → Rs → Prop
  | .inl x, .inl y => x = y
  | .inr (t', P'), .inr (t, P) => t' = t ∧ eqP P' P ∧ okP P
  | _, _ => False
theorem itFee_rel {B : Int → Int} {L s : Int} {P P' : ev_M} {t : Tk} (h : eqP P' P) (H : okP P) : RQ (itFee B L P' s t) (itFee B L P s t) := by
  unfold itFee
  split
  · split
    · rename_i hn
      exact ⟨rfl, eqP_mup h (by omega), okP_mup4 H hn.2⟩
    · exact rfl
  · exact ⟨rfl, h, H⟩
theorem itTem_rel {B : Int → Int} {L s : Int} {P P' : ev_M} {t : Tk} (h : eqP P' P) (H : okP P) : RQ (itTem B L P' s t) (itTem B L P s t) := by
  unfold itTem
  split
  · split
    · rename_i hn
      exact itFee_rel (eqP_mup h (by omega)) (okP_mup3 H hn.2)
    · exact rfl
  · exact itFee_rel h H
theorem itm_rel {B : Int → Int} {L : Int} {P P' : ev_M} {t : Tk} (h : eqP P' P) (H : okP P) : RQ (itm B L P' t) (itm B L P t) := by
  have kb := kdF_bd (B := B) (t := t) 6 0
  have kb2 : -1 ≤ kdN B t ∧ kdN B t < 6 := kb
  unfold itm
  split
  · unfold itSit
    rw [h.2.2.1]
    split
    · exact itTem_rel (eqP_addS h) (okP_addS H (by omega) (by omega))
    · exact rfl
  · split
    · unfold itLik itLi2
      rw [h.2.2.1, h.2.2.2.1]
      split
      · split
        · rename_i h8 hn
          split
          · split
            · rename_i hm
              exact ⟨rfl, eqP_addL h, okP_addL H (by have := hn.2; omega) (by have := hm.2; omega) h8⟩
            · exact rfl
          · exact rfl
        · exact rfl
      · exact rfl
    · split
      · unfold itWht itWh1 itWh2
        split
        · split
          · rename_i hn
            split
            · split
              · exact ⟨rfl, eqP_whm h, okP_whm H hn.2⟩
              · exact rfl
            · exact ⟨rfl, eqP_whm h, okP_whm H hn.2⟩
          · exact rfl
        · exact rfl
      · split
        · unfold itCrw
          split
          · rename_i hn
            exact ⟨rfl, eqP_mup0 h, okP_mup0 H hn.2⟩
          · exact rfl
        · exact rfl
