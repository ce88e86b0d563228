/-! items into a plain -/
def frTP (p : Nat) (σ τ : ev_M) : Prop := (∀ a : Nat, a ≠ 34 → a < p ∨ p + 8 < a → τ a = σ a) ∧ τ 34 1 = σ 34 1
theorem frTP_rf {p : Nat} {σ : ev_M} : frTP p σ σ := ⟨fun _ _ _ => rfl, rfl⟩
theorem frTP_T {p : Nat} {σ τ : ev_M} (h : frT σ τ) : frTP p σ τ := ⟨fun a ha _ => h.1 a ha, h.2⟩
theorem frTP_tr {p : Nat} {σ τ ω : ev_M} (h : frTP p σ τ) (g : frTP p τ ω) : frTP p σ ω := ⟨fun a ha hp => by rw [g.1 a ha hp, h.1 a ha hp], by rw [g.2, h.2]⟩
theorem frTP_m {p : Nat} {σ : ev_M} {a : Nat} {i v : Int} (hp : isP p) (h : p ≤ a ∧ a ≤ p + 8) : frTP p σ (mup σ a i v) := by
  have hb : p ≤ 19 := by rcases hp with rfl | rfl | rfl <;> omega
  exact ⟨fun x _ hx => mup_ne (by omega), by rw [mup_ne (by omega)]⟩
def PR (p : Nat) (σ : ev_M) (res : Rs) (r : Option ev_V) (τ : ev_M) : Prop := frTP p σ τ ∧ match res with
  | .inl x => r = some (vI 0) ∧ τ 34 3 = x ∧ (0 ≤ x ∧ x ≤ σ 34 1)
  | .inr (t, P) => r = some (vI 1) ∧ LK τ t ∧ wn τ p = P
theorem LK_m {p : Nat} {σ : ev_M} {t : Tk} {a : Nat} {i v : Int} (hp : isP p) (h : LK σ t) (ha : p ≤ a ∧ a ≤ p + 8) : LK (mup σ a i v) t := by
  have hb : p ≤ 19 := by rcases hp with rfl | rfl | rfl <;> omega
  exact LK_fr h (mup_ne (by omega)) (mup_ne (by omega))
theorem LK_s {σ : ev_M} {t : Tk} (h : LK σ t) : σ 34 3 = t.2.1 := h.2.1.2.1
theorem LK_x {σ : ev_M} {t : Tk} (h : LK σ t) : 0 ≤ t.2.1 ∧ t.2.1 ≤ σ 34 1 := by have := h.2.2.1; omega
theorem wn_addS {σ : ev_M} {p : Nat} {k : Int} : wn (addS σ p k) p = addS (wn σ p) 0 k := by
  unfold addS
  rw [show mup _ p 3 (σ p 3 + 1) = mup _ (p + 0) 3 (σ p 3 + 1) from rfl, wn_mup (by omega), wn_mup (by omega), wn_mup (by omega), wn_mup (by omega), wn_mup (by omega)]
  rfl
theorem wn_addL {σ : ev_M} {p : Nat} {k c : Int} : wn (addL σ p k c) p = addL (wn σ p) 0 k c := by
  unfold addL
  rw [show mup _ p 8 (σ p 8 + 1) = mup _ (p + 0) 8 (σ p 8 + 1) from rfl, wn_mup (by omega), wn_mup (by omega), wn_mup (by omega), wn_mup (by omega)]
  rfl
theorem wn_T {p : Nat} {σ τ : ev_M} (hp : isP p) (h : frT σ τ) : wn τ p = wn σ p := by
  have hb : p ≤ 19 := by rcases hp with rfl | rfl | rfl <;> omega
  exact wn_congr (fun j hj => h.1 (p + j) (by omega))
theorem c_X4_takeCrows {b : ev_B} {σ : ev_M} {p : Nat} {t : Tk} (hp : isP p) (h : LK σ t) : Cl b mX4_takeCrows [vR 34, vR p] σ (PR p σ (itCrw (σ 35) (σ 34 1) (wn σ p) t)) := by
  refine ev_enter okX4_takeCrows.1 (Nat.le_of_ble_eq_true rfl) ?_
  have hb : p ≤ 19 := by rcases hp with rfl | rfl | rfl <;> omega
  unfold itCrw
  refine ev_aload_n dX4_takeCrows_0 rfl ?_
  refine ev_callV (c_X4_adv h) okX4_advance dX4_takeCrows_1 mlX4_22 rfl rfl ⟨by decide, by decide⟩ rfl (Nat.le_of_ble_eq_true rfl) (fun r1 τ1 h1 => ?_)
  obtain ⟨rfl, g1, g2, g3⟩ := h1
  generalize ht1 : tkx (σ 35) (σ 34 1) t = t1 at g1 ⊢
  by_cases hn : isNm (σ 35) t1 0 20
  · rw [if_pos hn]
    rw [← g2.1 35 (by decide)] at hn
    refine ev_aload_n dX4_takeCrows_4 rfl ?_
    refine ev_iconst dX4_takeCrows_5 ?_
    refine ev_bipush dX4_takeCrows_6 (by decide) ?_
    refine ev_callV (c_X4_takeNumber_y g1 (by omega) (by omega) hn) okX4_takeNumber dX4_takeCrows_8 mlX4_76 rfl rfl ⟨by decide, by decide⟩ rfl (Nat.le_of_ble_eq_true rfl) (fun r8 τ8 h8 => ?_)
    obtain ⟨rfl, k1, k2, k3⟩ := h8
    rw [g2.1 35 (by decide), g2.2] at k1
    rw [g2.1 35 (by decide)] at k3
    refine ev_if_ne (tgt := 16) dX4_takeCrows_11 (by decide) (by omega) (fun c11 => ?_) (fun c11 => ?_)
    · refine ev_aload_n dX4_takeCrows_16 rfl ?_
      refine ev_aload_n dX4_takeCrows_17 rfl ?_
      refine ev_geti 6 6 dX4_takeCrows_18 rfl rfl flX4_83 iwX4 (by decide) rfl rfl ?_
      rw [k3]
      refine ev_put (ty := .int) 1 1 dX4_takeCrows_21 (pk0 hp) rfl flX4_105 iwX2 tyX2_ok nmX2 (by decide) rfl rfl (by decide +kernel) rfl rfl rfl ?_
      refine ev_iconst dX4_takeCrows_24 ?_
      refine ev_iret dX4_takeCrows_25 rfl (by first | rfl | exact ev_nb) ?_
      refine ⟨frTP_tr (frTP_T (frT_tr g2 k2)) (frTP_m hp (by omega)), rfl, LK_m hp k1 (by omega), ?_⟩
      rw [show mup τ8 p 1 _ = mup τ8 (p + 0) 1 _ from rfl, wn_mup (by omega), wn_T hp (frT_tr g2 k2)]
    · exact absurd c11 (by omega)
  · rw [if_neg hn]
    rw [← g2.1 35 (by decide)] at hn
    refine ev_aload_n dX4_takeCrows_4 rfl ?_
    refine ev_iconst dX4_takeCrows_5 ?_
    refine ev_bipush dX4_takeCrows_6 (by decide) ?_
    refine ev_V1 (c_X4_takeNumber_n g1 (by omega) (by omega) hn) okX4_takeNumber dX4_takeCrows_8 mlX4_76 rfl rfl ⟨by decide, by decide⟩ rfl (Nat.le_of_ble_eq_true rfl) ?_
    refine ev_if_ne (tgt := 16) dX4_takeCrows_11 (by decide) (by omega) (fun c11 => ?_) (fun c11 => ?_)
    · exact absurd c11 (by omega)
    · refine ev_iconst dX4_takeCrows_14 ?_
      refine ev_iret dX4_takeCrows_15 rfl (by first | rfl | exact ev_nb) ?_
      exact ⟨frTP_T g2, rfl, LK_s g1, by rw [← g2.2]; exact LK_x g1⟩
theorem tN_y {b : ev_B} {σ : ev_M} {t : Tk} {lo hi : Int} {B : Int → Int} {L : Int} (h : LK σ t) (hB : σ 35 = B) (hL : σ 34 1 = L) (h1 : (-2147483648 ≤ lo ∧ lo < 2147483648)) (h2 : (-2147483648 ≤ hi ∧ hi < 2147483648)) (hn : isNm B t lo hi) : Cl b mX4_takeNumber [vR 34, vI lo, vI hi] σ (fun r τ => r = some (vI 1) ∧ LK τ (tkx B L t) ∧ frT σ τ ∧ τ 34 6 = nmt B t ∧ τ 35 = B ∧ τ 34 1 = L) := by
  subst hB hL
  exact (c_X4_takeNumber_y h h1 h2 hn).mono (fun r τ q => ⟨q.1, q.2.1, q.2.2.1, q.2.2.2, q.2.2.1.1 35 (by decide), q.2.2.1.2⟩)
theorem tN_n {b : ev_B} {σ : ev_M} {t : Tk} {lo hi : Int} {B : Int → Int} (h : LK σ t) (hB : σ 35 = B) (h1 : (-2147483648 ≤ lo ∧ lo < 2147483648)) (h2 : (-2147483648 ≤ hi ∧ hi < 2147483648)) (hn : ¬ isNm B t lo hi) : CF b mX4_takeNumber [vR 34, vI lo, vI hi] σ (some (vI 0)) σ := by
  subst hB
  exact c_X4_takeNumber_n h h1 h2 hn
theorem tW_y {b : ev_B} {σ : ev_M} {t : Tk} (j : Nat) {B : Int → Int} {L : Int} (hj : j < 13) (h : LK σ t) (hB : σ 35 = B) (hL : σ 34 1 = L) (hw : wd B t j = true) : Cl b mX4_takeWord [vR 34, vR (61 + j)] σ (fun r τ => r = some (vI 1) ∧ LK τ (tkx B L t) ∧ frT σ τ ∧ τ 34 6 = σ 34 6 ∧ τ 35 = B ∧ τ 34 1 = L) := by
  subst hB hL
  exact (c_X4_takeWord_y hj h hw).mono (fun r τ q => ⟨q.1, q.2.1, q.2.2.1, q.2.2.2, q.2.2.1.1 35 (by decide), q.2.2.1.2⟩)
theorem tW_n {b : ev_B} {σ : ev_M} {t : Tk} (j : Nat) {B : Int → Int} (hj : j < 13) (h : LK σ t) (hB : σ 35 = B) (hw : ¬ wd B t j = true) : CF b mX4_takeWord [vR 34, vR (61 + j)] σ (some (vI 0)) σ := by
  subst hB
  exact c_X4_takeWord_n hj h hw
theorem tA {b : ev_B} {σ : ev_M} {t : Tk} {B : Int → Int} {L : Int} (h : LK σ t) (hB : σ 35 = B) (hL : σ 34 1 = L) : Cl b mX4_advance [vR 34] σ (fun r τ => r = none ∧ LK τ (tkx B L t) ∧ frT σ τ ∧ τ 34 6 = σ 34 6 ∧ τ 35 = B ∧ τ 34 1 = L) := by
  subst hB hL
  exact (c_X4_adv h).mono (fun r τ q => ⟨q.1, q.2.1, q.2.2.1, q.2.2.2, q.2.2.1.1 35 (by decide), q.2.2.1.2⟩)
theorem c_X4_takeSitter {b : ev_B} {σ : ev_M} {p : Nat} {t : Tk} {k : Int} (hp : isP p) (h : LK σ t) (H : okP (wn σ p)) : Cl b mX4_takeSitter [vR 34, vR p, vI k] σ (PR p σ (itSit (σ 35) (σ 34 1) (wn σ p) k t)) := by
  refine ev_enter okX4_takeSitter.1 (Nat.le_of_ble_eq_true rfl) ?_
  have hb : p ≤ 19 := by rcases hp with rfl | rfl | rfl <;> omega
  have h0 := ok0 H
  unfold itSit
  generalize hB : σ 35 = B
  generalize hL : σ 34 1 = L
  have fee : ∀ (τ : ev_M) (t : Tk), σ p 3 < 6 → LK τ t → τ 35 = B → τ 34 1 = L → frTP p σ τ → Ev b mX4_takeSitter 52 [(0, vR 34), (1, vR p), (2, vI k), (3, vI (σ p 3))] [] τ (PR p σ (itFee B L (wn τ p) (σ p 3) t)) := by
    intro τ t h6 hl eB eL fr
    unfold itFee
    by_cases hw : wd B t 7 = true
    · rw [if_pos hw]
      refine ev_aload_n dX4_takeSitter_52 rfl ?_
      refine ev_ldcS (j := 7) dX4_takeSitter_53 rfl rfl ?_
      refine ev_callV (tW_y 7 (by decide) hl eB eL hw) okX4_takeWord dX4_takeSitter_55 mlX4_73 rfl rfl ⟨by decide, by decide⟩ rfl (Nat.le_of_ble_eq_true rfl) (fun r55 τ55 h55 => ?_)
      obtain ⟨rfl, g1, g2, g3, g4, g5⟩ := h55
      generalize tkx B L t = t1 at g1 ⊢
      refine ev_if_eq (tgt := 83) dX4_takeSitter_58 (by decide) (by omega) (fun c58 => ?_) (fun c58 => ?_)
      · exact absurd c58 (by omega)
      · by_cases hn : isNm B t1 0 99
        · rw [if_pos hn]
          refine ev_aload_n dX4_takeSitter_61 rfl ?_
          refine ev_iconst dX4_takeSitter_62 ?_
          refine ev_bipush dX4_takeSitter_63 (by decide) ?_
          refine ev_callV (tN_y g1 g4 g5 (by omega) (by omega) hn) okX4_takeNumber dX4_takeSitter_65 mlX4_76 rfl rfl ⟨by decide, by decide⟩ rfl (Nat.le_of_ble_eq_true rfl) (fun r65 τ65 h65 => ?_)
          obtain ⟨rfl, k1, k2, k3, k4, k5⟩ := h65
          refine ev_if_ne (tgt := 73) dX4_takeSitter_68 (by decide) (by omega) (fun c68 => ?_) (fun c68 => ?_)
          · refine ev_aload_n dX4_takeSitter_73 rfl ?_
            refine ev_getr 6 dX4_takeSitter_74 (pk0 hp) rfl flX4_88 iwX2 (by decide) rfl ?_
            refine ev_iload_n dX4_takeSitter_77 rfl ?_
            refine ev_aload_n dX4_takeSitter_78 rfl ?_
            refine ev_geti 6 6 dX4_takeSitter_79 rfl rfl flX4_83 iwX4 (by decide) rfl rfl ?_
            rw [k3]
            refine ev_iast dX4_takeSitter_82 (pk4 hp) (by omega) ?_
            refine ev_iconst dX4_takeSitter_83 ?_
            refine ev_iret dX4_takeSitter_84 rfl (by first | rfl | exact ev_nb) ?_
            refine ⟨frTP_tr fr (frTP_tr (frTP_T (frT_tr g2 k2)) (frTP_m hp (by omega))), rfl, LK_m hp k1 (by omega), ?_⟩
            rw [wn_mup (by omega), wn_T hp (frT_tr g2 k2)]
          · exact absurd c68 (by omega)
        · rw [if_neg hn]
          refine ev_aload_n dX4_takeSitter_61 rfl ?_
          refine ev_iconst dX4_takeSitter_62 ?_
          refine ev_bipush dX4_takeSitter_63 (by decide) ?_
          refine ev_V1 (tN_n g1 g4 (by omega) (by omega) hn) okX4_takeNumber dX4_takeSitter_65 mlX4_76 rfl rfl ⟨by decide, by decide⟩ rfl (Nat.le_of_ble_eq_true rfl) ?_
          refine ev_if_ne (tgt := 73) dX4_takeSitter_68 (by decide) (by omega) (fun c68 => ?_) (fun c68 => ?_)
          · exact absurd c68 (by omega)
          · refine ev_iconst dX4_takeSitter_71 ?_
            refine ev_iret dX4_takeSitter_72 rfl (by first | rfl | exact ev_nb) ?_
            exact ⟨frTP_tr fr (frTP_T g2), rfl, LK_s g1, by have := LK_x g1; omega⟩
    · rw [if_neg hw]
      refine ev_aload_n dX4_takeSitter_52 rfl ?_
      refine ev_ldcS (j := 7) dX4_takeSitter_53 rfl rfl ?_
      refine ev_V1 (tW_n 7 (by decide) hl eB hw) okX4_takeWord dX4_takeSitter_55 mlX4_73 rfl rfl ⟨by decide, by decide⟩ rfl (Nat.le_of_ble_eq_true rfl) ?_
      refine ev_if_eq (tgt := 83) dX4_takeSitter_58 (by decide) (by omega) (fun c58 => ?_) (fun c58 => ?_)
      · refine ev_iconst dX4_takeSitter_83 ?_
        refine ev_iret dX4_takeSitter_84 rfl (by first | rfl | exact ev_nb) ?_
        exact ⟨fr, rfl, hl, rfl⟩
      · exact absurd c58 (by omega)
  refine ev_aload_n dX4_takeSitter_0 rfl ?_
  refine ev_geti 3 3 dX4_takeSitter_1 (pk0 hp) rfl flX4_62 iwX2 (by decide) rfl rfl ?_
  refine ev_bipush dX4_takeSitter_4 (by decide) ?_
  refine ev_icmp_lt (tgt := 11) dX4_takeSitter_6 (by decide) (by omega) (by omega) (fun c6 => ?_) (fun c6 => ?_)
  · rw [if_pos (show wn σ p 0 3 < 6 from c6)]
    refine ev_aload_n dX4_takeSitter_11 rfl ?_
    refine ev_iload_n dX4_takeSitter_12 rfl ?_
    refine ev_V1 (c_X2_addSitter hp (by omega)) okX2_addSitter dX4_takeSitter_13 mlX4_67 (pk0 hp) rfl ⟨by decide, by decide⟩ rfl (Nat.le_of_ble_eq_true rfl) ?_
    refine ev_istore_n dX4_takeSitter_16 (by decide) rfl ?_
    have eS : mup (mup (mup (mup (mup σ (p + 2) (σ p 3) k) (p + 3) (σ p 3) 10) (p + 4) (σ p 3) 5) (p + 5) (σ p 3) (σ p 2)) p 3 (σ p 3 + 1) = addS σ p k := rfl
    rw [eS]
    have fS : frTP p σ (addS σ p k) := ⟨fun a ha hx => by unfold addS; rw [mup_ne (by omega), mup_ne (by omega), mup_ne (by omega), mup_ne (by omega), mup_ne (by omega)], by unfold addS; rw [mup_ne (by omega), mup_ne (by omega), mup_ne (by omega), mup_ne (by omega), mup_ne (by omega)]⟩
    have eB : (addS σ p k) 35 = B := by rw [fS.1 35 (by omega) (by omega)]; exact hB
    have eL : (addS σ p k) 34 1 = L := by rw [fS.2]; exact hL
    have lS : LK (addS σ p k) t := LK_fr h (by unfold addS; rw [mup_ne (by omega), mup_ne (by omega), mup_ne (by omega), mup_ne (by omega), mup_ne (by omega)]) (by rw [eB, hB])
    refine ev_aload_n dX4_takeSitter_17 rfl ?_
    refine ev_callV (tA lS eB eL) okX4_advance dX4_takeSitter_18 mlX4_22 rfl rfl ⟨by decide, by decide⟩ rfl (Nat.le_of_ble_eq_true rfl) (fun r18 τ18 h18 => ?_)
    obtain ⟨rfl, a1, a2, a3, a4, a5⟩ := h18
    have wS : wn τ18 p = addS (wn σ p) 0 k := by rw [wn_T hp a2, wn_addS]
    have fA := frTP_tr fS (frTP_T a2)
    unfold itTem
    generalize tkx B L t = t1 at a1 ⊢
    by_cases hw : wd B t1 6 = true
    · rw [if_pos hw]
      refine ev_aload_n dX4_takeSitter_21 rfl ?_
      refine ev_ldcS (j := 6) dX4_takeSitter_22 rfl rfl ?_
      refine ev_callV (tW_y 6 (by decide) a1 a4 a5 hw) okX4_takeWord dX4_takeSitter_24 mlX4_73 rfl rfl ⟨by decide, by decide⟩ rfl (Nat.le_of_ble_eq_true rfl) (fun r24 τ24 h24 => ?_)
      obtain ⟨rfl, g1, g2, g3, g4, g5⟩ := h24
      generalize tkx B L t1 = t2 at g1 ⊢
      refine ev_if_eq (tgt := 52) dX4_takeSitter_27 (by decide) (by omega) (fun c27 => ?_) (fun c27 => ?_)
      · exact absurd c27 (by omega)
      · by_cases hn : isNm B t2 0 30
        · rw [if_pos hn]
          refine ev_aload_n dX4_takeSitter_30 rfl ?_
          refine ev_iconst dX4_takeSitter_31 ?_
          refine ev_bipush dX4_takeSitter_32 (by decide) ?_
          refine ev_callV (tN_y g1 g4 g5 (by omega) (by omega) hn) okX4_takeNumber dX4_takeSitter_34 mlX4_76 rfl rfl ⟨by decide, by decide⟩ rfl (Nat.le_of_ble_eq_true rfl) (fun r34 τ34 h34 => ?_)
          obtain ⟨rfl, k1, k2, k3, k4, k5⟩ := h34
          refine ev_if_ne (tgt := 42) dX4_takeSitter_37 (by decide) (by omega) (fun c37 => ?_) (fun c37 => ?_)
          · refine ev_aload_n dX4_takeSitter_42 rfl ?_
            refine ev_getr 5 dX4_takeSitter_43 (pk0 hp) rfl flX4_80 iwX2 (by decide) rfl ?_
            refine ev_iload_n dX4_takeSitter_46 rfl ?_
            refine ev_aload_n dX4_takeSitter_47 rfl ?_
            refine ev_geti 6 6 dX4_takeSitter_48 rfl rfl flX4_83 iwX4 (by decide) rfl rfl ?_
            rw [k3]
            refine ev_iast dX4_takeSitter_51 (pk3 hp) (by omega) ?_
            have l := fee (mup τ34 (p + 3) (σ p 3) (nmt B t2)) (tkx B L t2) c6 (LK_m hp k1 (by omega)) (by rw [mup_ne (by omega)]; exact k4) (by rw [mup_ne (by omega)]; exact k5) (frTP_tr fA (frTP_tr (frTP_T (frT_tr g2 k2)) (frTP_m hp (by omega))))
            rw [wn_mup (by omega), wn_T hp (frT_tr g2 k2), wS] at l
            exact l
          · exact absurd c37 (by omega)
        · rw [if_neg hn]
          refine ev_aload_n dX4_takeSitter_30 rfl ?_
          refine ev_iconst dX4_takeSitter_31 ?_
          refine ev_bipush dX4_takeSitter_32 (by decide) ?_
          refine ev_V1 (tN_n g1 g4 (by omega) (by omega) hn) okX4_takeNumber dX4_takeSitter_34 mlX4_76 rfl rfl ⟨by decide, by decide⟩ rfl (Nat.le_of_ble_eq_true rfl) ?_
          refine ev_if_ne (tgt := 42) dX4_takeSitter_37 (by decide) (by omega) (fun c37 => ?_) (fun c37 => ?_)
          · exact absurd c37 (by omega)
          · refine ev_iconst dX4_takeSitter_40 ?_
            refine ev_iret dX4_takeSitter_41 rfl (by first | rfl | exact ev_nb) ?_
            exact ⟨frTP_tr fA (frTP_T g2), rfl, LK_s g1, by have := LK_x g1; omega⟩
    · rw [if_neg hw]
      refine ev_aload_n dX4_takeSitter_21 rfl ?_
      refine ev_ldcS (j := 6) dX4_takeSitter_22 rfl rfl ?_
      refine ev_V1 (tW_n 6 (by decide) a1 a4 hw) okX4_takeWord dX4_takeSitter_24 mlX4_73 rfl rfl ⟨by decide, by decide⟩ rfl (Nat.le_of_ble_eq_true rfl) ?_
      refine ev_if_eq (tgt := 52) dX4_takeSitter_27 (by decide) (by omega) (fun c27 => ?_) (fun c27 => ?_)
      · have l := fee τ18 t1 c6 a1 a4 a5 fA
        rw [wS] at l
        exact l
      · exact absurd c27 (by omega)
  · rw [if_neg (show ¬ wn σ p 0 3 < 6 from c6)]
    refine ev_iconst dX4_takeSitter_9 ?_
    refine ev_iret dX4_takeSitter_10 rfl (by first | rfl | exact ev_nb) ?_
    exact ⟨frTP_rf, rfl, LK_s h, LK_x h⟩
theorem c_X4_takeLikeness {b : ev_B} {σ : ev_M} {p : Nat} {t : Tk} (hp : isP p) (h : LK σ t) (H : okP (wn σ p)) : Cl b mX4_takeLikeness [vR 34, vR p] σ (PR p σ (itLik (σ 35) (σ 34 1) (wn σ p) t)) := by
  refine ev_enter okX4_takeLikeness.1 (Nat.le_of_ble_eq_true rfl) ?_
  have hb : p ≤ 19 := by rcases hp with rfl | rfl | rfl <;> omega
  have h0 := ok0 H
  have e30 : wn σ p 0 3 = σ p 3 := rfl
  unfold itLik itLi2
  generalize hB : σ 35 = B
  generalize hL : σ 34 1 = L
  refine ev_aload_n dX4_takeLikeness_0 rfl ?_
  refine ev_geti 8 8 dX4_takeLikeness_1 (pk0 hp) rfl flX4_91 iwX2 (by decide) rfl rfl ?_
  refine ev_bipush dX4_takeLikeness_4 (by decide) ?_
  refine ev_icmp_lt (tgt := 11) dX4_takeLikeness_6 (by decide) (by omega) (by omega) (fun c6 => ?_) (fun c6 => ?_)
  · rw [if_pos (show wn σ p 0 8 < 8 from c6)]
    refine ev_aload_n dX4_takeLikeness_11 rfl ?_
    refine ev_callV (tA h hB hL) okX4_advance dX4_takeLikeness_12 mlX4_22 rfl rfl ⟨by decide, by decide⟩ rfl (Nat.le_of_ble_eq_true rfl) (fun r12 τ12 h12 => ?_)
    obtain ⟨rfl, a1, a2, a3, a4, a5⟩ := h12
    have e3 : τ12 p 3 = σ p 3 := by rw [a2.1 p (by omega)]
    generalize tkx B L t = t1 at a1 ⊢
    refine ev_aload_n dX4_takeLikeness_15 rfl ?_
    refine ev_iconst dX4_takeLikeness_16 ?_
    refine ev_aload_n dX4_takeLikeness_17 rfl ?_
    refine ev_geti 3 3 dX4_takeLikeness_18 (pk0 hp) rfl flX4_62 iwX2 (by decide) rfl rfl ?_
    rw [e3]
    by_cases hn : isNm B t1 0 (wn σ p 0 3 - 1)
    · rw [if_pos hn]
      refine ev_iconst dX4_takeLikeness_21 ?_
      refine ev_isub dX4_takeLikeness_22 ?_
      refine ev_callV (tN_y a1 a4 a5 (by omega) (by omega) (show _ from hn)) okX4_takeNumber dX4_takeLikeness_23 mlX4_76 rfl rfl ⟨by decide, by decide⟩ rfl (Nat.le_of_ble_eq_true rfl) (fun r23 τ23 h23 => ?_)
      obtain ⟨rfl, k1, k2, k3, k4, k5⟩ := h23
      refine ev_if_ne (tgt := 31) dX4_takeLikeness_26 (by decide) (by omega) (fun c26 => ?_) (fun c26 => ?_)
      · refine ev_aload_n dX4_takeLikeness_31 rfl ?_
        refine ev_geti 6 6 dX4_takeLikeness_32 rfl rfl flX4_83 iwX4 (by decide) rfl rfl ?_
        rw [k3]
        generalize hv : nmt B t1 = o
        generalize tkx B L t1 = t2 at k1 ⊢
        by_cases hw : wd B t2 9 = true
        · rw [if_pos hw]
          refine ev_istore_n dX4_takeLikeness_35 (by decide) rfl ?_
          refine ev_aload_n dX4_takeLikeness_36 rfl ?_
          refine ev_ldcS (j := 9) dX4_takeLikeness_37 rfl rfl ?_
          refine ev_callV (tW_y 9 (by decide) k1 k4 k5 hw) okX4_takeWord dX4_takeLikeness_39 mlX4_73 rfl rfl ⟨by decide, by decide⟩ rfl (Nat.le_of_ble_eq_true rfl) (fun r39 τ39 h39 => ?_)
          obtain ⟨rfl, g1, g2, g3, g4, g5⟩ := h39
          generalize tkx B L t2 = t3 at g1 ⊢
          refine ev_if_eq (tgt := 55) dX4_takeLikeness_42 (by decide) (by omega) (fun c42 => ?_) (fun c42 => ?_)
          · exact absurd c42 (by omega)
          · by_cases hm : isNm B t3 0 47
            · rw [if_pos hm]
              refine ev_aload_n dX4_takeLikeness_45 rfl ?_
              refine ev_iconst dX4_takeLikeness_46 ?_
              refine ev_bipush dX4_takeLikeness_47 (by decide) ?_
              refine ev_callV (tN_y g1 g4 g5 (by omega) (by omega) hm) okX4_takeNumber dX4_takeLikeness_49 mlX4_76 rfl rfl ⟨by decide, by decide⟩ rfl (Nat.le_of_ble_eq_true rfl) (fun r49 τ49 h49 => ?_)
              obtain ⟨rfl, m1, m2, m3, m4, m5⟩ := h49
              refine ev_if_ne (tgt := 57) dX4_takeLikeness_52 (by decide) (by omega) (fun c52 => ?_) (fun c52 => ?_)
              · have fT := frT_tr a2 (frT_tr k2 (frT_tr g2 m2))
                have e8 : τ49 p 8 = σ p 8 := by rw [fT.1 p (by omega)]
                refine ev_aload_n dX4_takeLikeness_57 rfl ?_
                refine ev_iload_n dX4_takeLikeness_58 rfl ?_
                refine ev_aload_n dX4_takeLikeness_59 rfl ?_
                refine ev_geti 6 6 dX4_takeLikeness_60 rfl rfl flX4_83 iwX4 (by decide) rfl rfl ?_
                rw [m3]
                refine ev_V1 (c_X2_addLikeness hp (by omega)) okX2_addLikeness dX4_takeLikeness_63 mlX4_96 (pk0 hp) rfl ⟨by decide, by decide⟩ rfl (Nat.le_of_ble_eq_true rfl) ?_
                refine ev_pop dX4_takeLikeness_66 rfl ?_
                refine ev_iconst dX4_takeLikeness_67 ?_
                refine ev_iret dX4_takeLikeness_68 rfl (by first | rfl | exact ev_nb) ?_
                have eS : mup (mup (mup (mup τ49 (p + 6) (τ49 p 8) (nmt B t3)) (p + 7) (τ49 p 8) o) (p + 8) (τ49 p 8) 0) p 8 (τ49 p 8 + 1) = addL τ49 p o (nmt B t3) := rfl
                rw [eS]
                refine ⟨frTP_tr (frTP_T fT) ⟨fun a ha hx => by unfold addL; rw [mup_ne (by omega), mup_ne (by omega), mup_ne (by omega), mup_ne (by omega)], by unfold addL; rw [mup_ne (by omega), mup_ne (by omega), mup_ne (by omega), mup_ne (by omega)]⟩, rfl, LK_fr m1 (by unfold addL; rw [mup_ne (by omega), mup_ne (by omega), mup_ne (by omega), mup_ne (by omega)]) (by unfold addL; rw [mup_ne (by omega), mup_ne (by omega), mup_ne (by omega), mup_ne (by omega)]), ?_⟩
                rw [wn_addL, wn_T hp fT]
              · exact absurd c52 (by omega)
            · rw [if_neg hm]
              refine ev_aload_n dX4_takeLikeness_45 rfl ?_
              refine ev_iconst dX4_takeLikeness_46 ?_
              refine ev_bipush dX4_takeLikeness_47 (by decide) ?_
              refine ev_V1 (tN_n g1 g4 (by omega) (by omega) hm) okX4_takeNumber dX4_takeLikeness_49 mlX4_76 rfl rfl ⟨by decide, by decide⟩ rfl (Nat.le_of_ble_eq_true rfl) ?_
              refine ev_if_ne (tgt := 57) dX4_takeLikeness_52 (by decide) (by omega) (fun c52 => ?_) (fun c52 => ?_)
              · exact absurd c52 (by omega)
              · refine ev_iconst dX4_takeLikeness_55 ?_
                refine ev_iret dX4_takeLikeness_56 rfl (by first | rfl | exact ev_nb) ?_
                exact ⟨frTP_T (frT_tr a2 (frT_tr k2 g2)), rfl, LK_s g1, by have := LK_x g1; omega⟩
        · rw [if_neg hw]
          refine ev_istore_n dX4_takeLikeness_35 (by decide) rfl ?_
          refine ev_aload_n dX4_takeLikeness_36 rfl ?_
          refine ev_ldcS (j := 9) dX4_takeLikeness_37 rfl rfl ?_
          refine ev_V1 (tW_n 9 (by decide) k1 k4 hw) okX4_takeWord dX4_takeLikeness_39 mlX4_73 rfl rfl ⟨by decide, by decide⟩ rfl (Nat.le_of_ble_eq_true rfl) ?_
          refine ev_if_eq (tgt := 55) dX4_takeLikeness_42 (by decide) (by omega) (fun c42 => ?_) (fun c42 => ?_)
          · refine ev_iconst dX4_takeLikeness_55 ?_
            refine ev_iret dX4_takeLikeness_56 rfl (by first | rfl | exact ev_nb) ?_
            exact ⟨frTP_T (frT_tr a2 k2), rfl, LK_s k1, by have := LK_x k1; omega⟩
          · exact absurd c42 (by omega)
      · exact absurd c26 (by omega)
    · rw [if_neg hn]
      refine ev_iconst dX4_takeLikeness_21 ?_
      refine ev_isub dX4_takeLikeness_22 ?_
      refine ev_V1 (tN_n a1 a4 (by omega) (by omega) (show _ from hn)) okX4_takeNumber dX4_takeLikeness_23 mlX4_76 rfl rfl ⟨by decide, by decide⟩ rfl (Nat.le_of_ble_eq_true rfl) ?_
      refine ev_if_ne (tgt := 31) dX4_takeLikeness_26 (by decide) (by omega) (fun c26 => ?_) (fun c26 => ?_)
      · exact absurd c26 (by omega)
      · refine ev_iconst dX4_takeLikeness_29 ?_
        refine ev_iret dX4_takeLikeness_30 rfl (by first | rfl | exact ev_nb) ?_
        exact ⟨frTP_T a2, rfl, LK_s a1, by have := LK_x a1; omega⟩
  · rw [if_neg (show ¬ wn σ p 0 8 < 8 from c6)]
    refine ev_iconst dX4_takeLikeness_9 ?_
    refine ev_iret dX4_takeLikeness_10 rfl (by first | rfl | exact ev_nb) ?_
    exact ⟨frTP_rf, rfl, LK_s h, LK_x h⟩
