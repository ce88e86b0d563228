/-! the model's new sheet, images, copies -/
theorem c_X6_sheet {b : ev_B} {σ : ev_M} {s bits n : Int} (ha : σ 46 6 = 0) (h1 : (-2147483648 ≤ s ∧ s < 2147483648)) (h2 : (-2147483648 ≤ bits ∧ bits < 2147483648)) (h3 : (-2147483648 ≤ n ∧ n < 2147483648)) : Cl b mX6_sheet [vR 46, vI s, vI bits, vI n] σ (RP σ (sc_sheet (prj σ) s bits n)) := by
  refine ev_enter okX6_sheet.1 (Nat.le_of_ble_eq_true rfl) ?_
  unfold sc_sheet
  have K : (0 ≤ s ∧ s ≤ 3) → (bits = 0 ∨ bits = 8 ∨ bits = 16 ∨ bits = 64) → Ev b mX6_sheet 36 [(0, vR 46), (1, vI s), (2, vI bits), (3, vI n)] [] σ (RP σ (if n < 0 then (-1000000007, fnd (prj σ) 6) else if 40 < n then (-1000000001, fnd (prj σ) 0) else (if bits = 0 then 0 else n, shM (prj σ) (ev_rt s.toNat) bits n))) := by
    intro hs hbits
    have hr : 37 ≤ ev_rt s.toNat ∧ ev_rt s.toNat ≤ 43 := by unfold ev_rt; omega
    refine ev_iload_n dX6_sheet_36 rfl ?_
    refine ev_if_ge (tgt := 48) dX6_sheet_37 (by decide) (by omega) (fun c37 => ?_) (fun c37 => ?_)
    · rw [if_neg (by omega)]
      refine ev_iload_n dX6_sheet_48 rfl ?_
      refine ev_bipush dX6_sheet_49 (by decide) ?_
      refine ev_icmp_le (tgt := 61) dX6_sheet_51 (by decide) (by omega) (by omega) (fun c51 => ?_) (fun c51 => ?_)
      · rw [if_neg (by omega)]
        have fin : ∀ z : Int, z = (if bits = 0 then 0 else n) → Ev b mX6_sheet 82 [(0, vR 46), (1, vI s), (2, vI bits), (3, vI n)] [vI z, vI s, vR 57] (mup σ 56 s bits) (RP σ (if bits = 0 then 0 else n, shM (prj σ) (ev_rt s.toNat) bits n)) := by
          intro z hz
          rw [← hz]
          refine ev_iast dX6_sheet_82 rfl (by omega) ?_
          refine ev_iconst dX6_sheet_83 ?_
          refine ev_istore dX6_sheet_84 (by decide) rfl ?_
          generalize hυ : mup (mup σ 56 s bits) 57 s z = υ
          have u56 : υ 56 = upw (σ 56) s bits := by rw [← hυ, mup_ne (by decide), mup_row]
          have u57 : υ 57 = upw (σ 57) s z := by rw [← hυ, mup_row, mup_ne (by decide)]
          have ua : ∀ a : Nat, a ≠ 56 → a ≠ 57 → υ a = σ a := fun a q1 q2 => by rw [← hυ, mup_ne q2, mup_ne q1]
          have loop : ∀ (m k : Nat), k + m = 40 → Ev b mX6_sheet 86 [(0, vR 46), (1, vI s), (2, vI bits), (3, vI n), (4, vI k)] [] (whS υ 58 (40 * s) 0 k 0) (RP σ (z, shM (prj σ) (ev_rt s.toNat) bits n)) := by
            intro m
            induction m with
            | zero =>
              intro k h
              have ek : (k : Int) = 40 := by omega
              have e57 : whS υ 58 (40 * s) 0 k 0 57 s = z := by rw [whS_ne (by decide), u57, upw_at]
              refine ev_iload dX6_sheet_86 rfl ?_
              refine ev_bipush dX6_sheet_88 (by decide) ?_
              refine ev_icmp_ge (tgt := 112) dX6_sheet_90 (by decide) (by omega) (by omega) (fun c90 => ?_) (fun c90 => ?_)
              · refine ev_aload_n dX6_sheet_112 rfl ?_
                refine ev_getr 17 dX6_sheet_113 rfl rfl flX6_40 iwX6 (by decide) rfl ?_
                refine ev_iload_n dX6_sheet_116 rfl ?_
                refine ev_iald dX6_sheet_117 rfl (by omega) ?_
                rw [e57]
                refine ev_iret dX6_sheet_118 rfl rfl ?_
                refine ⟨rfl, REL_sheet (σ := σ) hs (fun a q1 q2 => ?_) ?_ ?_ ?_ (fun a hx => ?_) (fun x hx => ?_) (fun x hx => ?_) (fun x hx => ?_) ?_ ?_ (fun i hi => ?_), fun a hx => ?_, ?_⟩
                · show shM (prj σ) (ev_rt s.toNat) bits n a = prj σ a
                  unfold shM
                  rw [mfl_ne q2, mup_ne q1, mup_ne q1]
                · rw [whS_ne (by decide), ua 46 (by decide) (by decide)]
                · rw [whS_ne (by decide), ua 46 (by decide) (by decide)]
                · rw [whS_ne (by decide), ua 47 (by decide) (by decide)]; exact eqP_rf
                · rw [whS_ne (by omega), ua a (by omega) (by omega)]
                · rw [whS_ne (by decide), u56, upw_ne hx]
                · rw [whS_ne (by decide), u57, upw_ne hx]
                · unfold whS; rw [if_neg (by omega), ua 58 (by decide) (by decide)]
                · rw [whS_ne (by decide), u56, upw_at]
                  show shM (prj σ) (ev_rt s.toNat) bits n (ev_rt s.toNat) 1 = bits
                  unfold shM
                  rw [mfl_ne (by omega), mup_off (by decide), mup_at]
                · rw [whS_ne (by decide), u57, upw_at]
                  show shM (prj σ) (ev_rt s.toNat) bits n (ev_rt s.toNat) 2 = z
                  unfold shM
                  rw [mfl_ne (by omega), mup_at]
                  exact hz.symm
                · show shM (prj σ) (ev_rt s.toNat) bits n (ev_rt s.toNat + 1) i = _
                  unfold shM whS mfl
                  rw [if_pos (by omega), if_pos (by omega)]
                · rw [whS_ne (by omega), ua a (by omega) (by omega)]
                · rw [whS_ne (by decide), ua 46 (by decide) (by decide)]; exact ha
              · exact absurd c90 (by omega)
            | succ m ih =>
              intro k h
              refine ev_iload dX6_sheet_86 rfl ?_
              refine ev_bipush dX6_sheet_88 (by decide) ?_
              refine ev_icmp_ge (tgt := 112) dX6_sheet_90 (by decide) (by omega) (by omega) (fun c90 => ?_) (fun c90 => ?_)
              · exact absurd c90 (by omega)
              · refine ev_aload_n dX6_sheet_93 rfl ?_
                refine ev_getr 18 dX6_sheet_94 rfl rfl flX6_43 iwX6 (by decide) rfl ?_
                refine ev_bipush dX6_sheet_97 (by decide) ?_
                refine ev_iload_n dX6_sheet_99 rfl ?_
                refine ev_imul dX6_sheet_100 ?_
                refine ev_iload dX6_sheet_101 rfl ?_
                refine ev_iadd dX6_sheet_103 ?_
                refine ev_lconst (z := 0) dX6_sheet_104 rfl ?_
                refine ev_last dX6_sheet_105 rfl (by omega) ?_
                refine ev_iinc dX6_sheet_106 rfl (by decide) rfl ?_
                refine ev_goto (tgt := 86) dX6_sheet_109 (by decide) ?_
                rw [whS_s (by omega)]
                exact ih (k + 1) (by omega)
          have l := loop 40 0 (by omega)
          rw [show ((0 : Nat) : Int) = 0 from rfl, whS_0] at l
          exact l
        refine ev_aload_n dX6_sheet_61 rfl ?_
        refine ev_getr 16 dX6_sheet_62 rfl rfl flX6_37 iwX6 (by decide) rfl ?_
        refine ev_iload_n dX6_sheet_65 rfl ?_
        refine ev_iload_n dX6_sheet_66 rfl ?_
        refine ev_iast dX6_sheet_67 rfl (by omega) ?_
        refine ev_aload_n dX6_sheet_68 rfl ?_
        refine ev_getr 17 dX6_sheet_69 rfl rfl flX6_40 iwX6 (by decide) rfl ?_
        refine ev_iload_n dX6_sheet_72 rfl ?_
        refine ev_iload_n dX6_sheet_73 rfl ?_
        refine ev_if_ne (tgt := 81) dX6_sheet_74 (by decide) (by omega) (fun c74 => ?_) (fun c74 => ?_)
        · refine ev_iload_n dX6_sheet_81 rfl ?_
          exact fin n (by rw [if_neg c74])
        · refine ev_iconst dX6_sheet_77 ?_
          refine ev_goto (tgt := 82) dX6_sheet_78 (by decide) ?_
          exact fin 0 (by rw [if_pos c74])
      · rw [if_pos (by omega)]
        refine ev_aload_n dX6_sheet_54 rfl ?_
        refine ev_ldc (z := -1000000001) dX6_sheet_55 kcX6_50 (by decide) ?_
        refine ev_V1 (c_X6_finds (by omega)) okX6_finds dX6_sheet_57 mlX6_101 rfl rfl ⟨by decide, by decide⟩ rfl (Nat.le_of_ble_eq_true rfl) ?_
        refine ev_iret dX6_sheet_60 rfl rfl ?_
        exact RP_fnd ha
    · rw [if_pos (by omega)]
      refine ev_aload_n dX6_sheet_40 rfl ?_
      refine ev_ldcw (z := -1000000007) dX6_sheet_41 kcX6_316 (by decide) ?_
      refine ev_V1 (c_X6_finds (by omega)) okX6_finds dX6_sheet_44 mlX6_101 rfl rfl ⟨by decide, by decide⟩ rfl (Nat.le_of_ble_eq_true rfl) ?_
      refine ev_iret dX6_sheet_47 rfl rfl ?_
      exact RP_fnd ha
  refine ev_iload_n dX6_sheet_0 rfl ?_
  refine ev_Sbeq (tgt := 29) (c_X6_isOne (by omega)) okX6_isOne dX6_sheet_1 mlX6_313 ⟨by decide, by decide⟩ rfl (Nat.le_of_ble_eq_true rfl) dX6_sheet_4 (by decide) (fun c1 => ?_) (fun c1 => ?_)
  · rw [if_pos (by omega)]
    refine ev_aload_n dX6_sheet_29 rfl ?_
    refine ev_ldc (z := -1000000001) dX6_sheet_30 kcX6_50 (by decide) ?_
    refine ev_V1 (c_X6_finds (by omega)) okX6_finds dX6_sheet_32 mlX6_101 rfl rfl ⟨by decide, by decide⟩ rfl (Nat.le_of_ble_eq_true rfl) ?_
    refine ev_iret dX6_sheet_35 rfl rfl ?_
    exact RP_fnd ha
  · refine ev_iload_n dX6_sheet_7 rfl ?_
    refine ev_if_eq (tgt := 36) dX6_sheet_8 (by decide) (by omega) (fun c8 => ?_) (fun c8 => ?_)
    · rw [if_neg (by omega)]
      exact K c1 (by omega)
    · refine ev_iload_n dX6_sheet_11 rfl ?_
      refine ev_bipush dX6_sheet_12 (by decide) ?_
      refine ev_icmp_eq (tgt := 36) dX6_sheet_14 (by decide) (by omega) (by omega) (fun c14 => ?_) (fun c14 => ?_)
      · rw [if_neg (by omega)]
        exact K c1 (by omega)
      · refine ev_iload_n dX6_sheet_17 rfl ?_
        refine ev_bipush dX6_sheet_18 (by decide) ?_
        refine ev_icmp_eq (tgt := 36) dX6_sheet_20 (by decide) (by omega) (by omega) (fun c20 => ?_) (fun c20 => ?_)
        · rw [if_neg (by omega)]
          exact K c1 (by omega)
        · refine ev_iload_n dX6_sheet_23 rfl ?_
          refine ev_bipush dX6_sheet_24 (by decide) ?_
          refine ev_icmp_eq (tgt := 36) dX6_sheet_26 (by decide) (by omega) (by omega) (fun c26 => ?_) (fun c26 => ?_)
          · rw [if_neg (by omega)]
            exact K c1 (by omega)
          · rw [if_pos (by omega)]
            refine ev_aload_n dX6_sheet_29 rfl ?_
            refine ev_ldc (z := -1000000001) dX6_sheet_30 kcX6_50 (by decide) ?_
            refine ev_V1 (c_X6_finds (by omega)) okX6_finds dX6_sheet_32 mlX6_101 rfl rfl ⟨by decide, by decide⟩ rfl (Nat.le_of_ble_eq_true rfl) ?_
            refine ev_iret dX6_sheet_35 rfl rfl ?_
            exact RP_fnd ha
/-- an image: the class's cells and the model's -/
def sc_image (σ : ev_M) : Int × ev_M := (1, mup (setP σ 10 (wn σ 1)) 0 7 1)
def sc_undo (σ : ev_M) : Int × ev_M := if σ 0 7 = 0 then (-1000000004, fnd σ 3) else (σ 10 3, setP σ 1 (wn σ 10))
theorem setP_wn {σ P : ev_M} {p : Nat} : wn (setP σ p P) p = fun j i => if j < 9 then P j i else 0 := by
  funext j i
  unfold wn setP
  by_cases hj : j < 9
  · rw [if_pos hj, if_pos hj, if_pos (by omega), show p + j - p = j by omega]
  · rw [if_neg hj, if_neg hj]
theorem setP_ne {σ P : ev_M} {p a : Nat} (h : a < p ∨ p + 9 ≤ a) : setP σ p P a = σ a := by
  funext i; unfold setP; rw [if_neg (by omega)]
theorem eqP_setP {σ P : ev_M} {p : Nat} : eqP (wn (setP σ p P) p) P := by
  rw [setP_wn]
  exact ⟨rfl, rfl, rfl, rfl, fun _ _ => rfl, fun _ _ => ⟨rfl, rfl, rfl, rfl⟩, fun _ _ => ⟨rfl, rfl, rfl⟩⟩
theorem c_X6_image {b : ev_B} {σ : ev_M} (H : okP (wr (σ 47))) (ha : σ 46 6 = 0) : Cl b mX6_image [vR 46] σ (RP σ (sc_image (prj σ))) := by
  refine ev_enter okX6_image.1 (Nat.le_of_ble_eq_true rfl) ?_
  have loop : ∀ (m i : Nat), i + m = 100 → Ev b mX6_image 2 [(0, vR 46), (1, vI i)] [] (cpy σ 48 47 i) (RP σ (sc_image (prj σ))) := by
    intro m
    induction m with
    | zero =>
      intro i h
      have e : (i : Int) = 100 := by omega
      refine ev_iload_n dX6_image_2 rfl ?_
      refine ev_bipush dX6_image_3 (by decide) ?_
      refine ev_icmp_ge (tgt := 26) dX6_image_5 (by decide) (by omega) (by omega) (fun c5 => ?_) (fun c5 => ?_)
      · refine ev_aload_n dX6_image_26 rfl ?_
        refine ev_iconst dX6_image_27 ?_
        refine ev_put (ty := .boolean) 5 5 dX6_image_28 rfl rfl flX6_328 iwX6 tyX6_ok nmX6 (by decide) rfl rfl (by decide +kernel) rfl rfl rfl ?_
        refine ev_iconst dX6_image_31 ?_
        refine ev_iret dX6_image_32 rfl rfl ?_
        rw [e]
        unfold sc_image
        have es : eqS (cpy σ 48 47 100 48) (σ 47) := fun i hi => cpy_at i hi
        generalize hω : cpy σ 48 47 100 = ω at *
        have wa : ∀ a : Nat, a ≠ 48 → ω a = σ a := fun a h => by rw [← hω]; exact cpy_ne h
        refine ⟨rfl, ⟨?_, ?_, ?_, ?_, fun i hi => ?_, fun q hq => ?_, fun i hi => ?_⟩, fun a hx => by rw [mup_ne (by omega)]; exact wa a (by omega), by rw [mup_off (by decide), wa 46 (by decide)]; exact ha⟩
        · show eqP (wn (mup (setP (prj σ) 10 (wn (prj σ) 1)) 0 7 1) 1) _
          rw [wn_congr (σ := prj σ) (fun j hj => by rw [mup_ne (by omega), setP_ne (by omega)]), prj_1, prj_1, mup_ne (by decide), wa 47 (by decide)]
          exact eqP_rf
        · show eqP (wn (mup (setP (prj σ) 10 (wn (prj σ) 1)) 0 7 1) 10) _
          rw [wn_congr (σ := setP (prj σ) 10 (wn (prj σ) 1)) (fun j hj => mup_ne (by omega)), prj_10, mup_ne (by decide)]
          refine eqP_trans eqP_setP ?_
          rw [prj_1]
          exact eqP_symm (eqS_wr es H)
        · show mup (setP (prj σ) 10 (wn (prj σ) 1)) 0 7 1 0 7 = mup ω 46 5 1 46 5
          rw [mup_at, mup_at]
        · show mup (setP (prj σ) 10 (wn (prj σ) 1)) 0 7 1 34 1 = mup ω 46 5 1 46 11
          rw [mup_ne (by decide), setP_ne (by omega), mup_off (by decide), wa 46 (by decide)]
          rfl
        · show mup (setP (prj σ) 10 (wn (prj σ) 1)) 0 7 1 35 i = mup ω 46 5 1 55 i
          rw [mup_ne (by decide), setP_ne (by omega), mup_ne (by decide), wa 55 (by decide)]
          rfl
        · obtain ⟨t, ht, rfl⟩ := rt_of hq
          have hr : 37 ≤ ev_rt t.toNat := by unfold ev_rt; omega
          show mup (setP (prj σ) 10 (wn (prj σ) 1)) 0 7 1 (ev_rt t.toNat) 1 = _ ∧ mup (setP (prj σ) 10 (wn (prj σ) 1)) 0 7 1 (ev_rt t.toNat) 2 = _ ∧ ∀ i : Int, 0 ≤ i ∧ i < 40 → mup (setP (prj σ) 10 (wn (prj σ) 1)) 0 7 1 (ev_rt t.toNat + 1) i = _
          rw [mup_ne (by omega), mup_ne (by omega), setP_ne (by omega), setP_ne (by omega), pS1 ht, pS1 ht, pS2 ht, pS2 ht, mup_ne (by decide), mup_ne (by decide), wa 56 (by decide), wa 57 (by decide)]
          refine ⟨rfl, rfl, fun i hi => ?_⟩
          rw [pS3 ht, pS3 ht, mup_ne (by decide), wa 58 (by decide)]
        · show mup (setP (prj σ) 10 (wn (prj σ) 1)) 0 7 1 45 i = mup ω 46 5 1 51 i
          rw [mup_ne (by decide), setP_ne (by omega), mup_ne (by decide), wa 51 (by decide)]
          rfl
      · exact absurd c5 (by omega)
    | succ m ih =>
      intro i h
      refine ev_iload_n dX6_image_2 rfl ?_
      refine ev_bipush dX6_image_3 (by decide) ?_
      refine ev_icmp_ge (tgt := 26) dX6_image_5 (by decide) (by omega) (by omega) (fun c5 => ?_) (fun c5 => ?_)
      · exact absurd c5 (by omega)
      · refine ev_aload_n dX6_image_8 rfl ?_
        refine ev_getr 1 dX6_image_9 rfl rfl flX6_13 iwX6 (by decide) rfl ?_
        refine ev_iload_n dX6_image_12 rfl ?_
        refine ev_aload_n dX6_image_13 rfl ?_
        refine ev_getr 0 dX6_image_14 rfl rfl flX6_7 iwX6 (by decide) rfl ?_
        refine ev_iload_n dX6_image_17 rfl ?_
        refine ev_iald dX6_image_18 rfl (by omega) ?_
        refine ev_iast dX6_image_19 rfl (by omega) ?_
        refine ev_iinc dX6_image_20 rfl (by decide) rfl ?_
        refine ev_goto (tgt := 2) dX6_image_23 (by decide) ?_
        rw [cpy_ne (x := 47) (by decide), cpy_s (by omega)]
        exact ih (i + 1) (by omega)
  refine ev_iconst dX6_image_0 ?_
  refine ev_istore_n dX6_image_1 (by decide) rfl ?_
  have l := loop 100 0 (by omega)
  rw [show ((0 : Nat) : Int) = 0 from rfl, cpy_0] at l
  exact l
theorem c_X6_undo {b : ev_B} {σ : ev_M} (H : okP (wr (σ 48))) (ha : σ 46 6 = 0) (h7 : σ 46 5 = 0 ∨ σ 46 5 = 1) : Cl b mX6_undo [vR 46] σ (RP σ (sc_undo (prj σ))) := by
  refine ev_enter okX6_undo.1 (Nat.le_of_ble_eq_true rfl) ?_
  unfold sc_undo
  have p0 : prj σ 0 7 = σ 46 5 := rfl
  have loop : ∀ (m i : Nat), i + m = 100 → Ev b mX6_undo 16 [(0, vR 46), (1, vI i)] [] (cpy σ 47 48 i) (RP σ (prj σ 10 3, setP (prj σ) 1 (wn (prj σ) 10))) := by
    intro m
    induction m with
    | zero =>
      intro i h
      have e : (i : Int) = 100 := by omega
      refine ev_iload_n dX6_undo_16 rfl ?_
      refine ev_bipush dX6_undo_17 (by decide) ?_
      refine ev_icmp_ge (tgt := 40) dX6_undo_19 (by decide) (by omega) (by omega) (fun c19 => ?_) (fun c19 => ?_)
      · have e0 : cpy σ 47 48 i 47 0 = prj σ 10 3 := by rw [cpy_at 0 (by omega)]; rfl
        refine ev_aload_n dX6_undo_40 rfl ?_
        refine ev_getr 0 dX6_undo_41 rfl rfl flX6_7 iwX6 (by decide) rfl ?_
        refine ev_iconst dX6_undo_44 ?_
        refine ev_iald dX6_undo_45 rfl (by omega) ?_
        rw [e0]
        refine ev_iret dX6_undo_46 rfl rfl ?_
        rw [e]
        have es : eqS (cpy σ 47 48 100 47) (σ 48) := fun i hi => cpy_at i hi
        refine RP_S (by rw [cpy_ne (by decide)]; exact ha) (fun a hx => setP_ne (by omega)) ?_ (fun a hx _ => cpy_ne hx) (by rw [cpy_ne (by decide)]) (by rw [cpy_ne (by decide)])
        refine eqP_trans eqP_setP ?_
        rw [prj_10]
        exact eqP_symm (eqS_wr es H)
      · exact absurd c19 (by omega)
    | succ m ih =>
      intro i h
      refine ev_iload_n dX6_undo_16 rfl ?_
      refine ev_bipush dX6_undo_17 (by decide) ?_
      refine ev_icmp_ge (tgt := 40) dX6_undo_19 (by decide) (by omega) (by omega) (fun c19 => ?_) (fun c19 => ?_)
      · exact absurd c19 (by omega)
      · refine ev_aload_n dX6_undo_22 rfl ?_
        refine ev_getr 0 dX6_undo_23 rfl rfl flX6_7 iwX6 (by decide) rfl ?_
        refine ev_iload_n dX6_undo_26 rfl ?_
        refine ev_aload_n dX6_undo_27 rfl ?_
        refine ev_getr 1 dX6_undo_28 rfl rfl flX6_13 iwX6 (by decide) rfl ?_
        refine ev_iload_n dX6_undo_31 rfl ?_
        refine ev_iald dX6_undo_32 rfl (by omega) ?_
        refine ev_iast dX6_undo_33 rfl (by omega) ?_
        refine ev_iinc dX6_undo_34 rfl (by decide) rfl ?_
        refine ev_goto (tgt := 16) dX6_undo_37 (by decide) ?_
        rw [cpy_ne (x := 48) (by decide), cpy_s (by omega)]
        exact ih (i + 1) (by omega)
  refine ev_aload_n dX6_undo_0 rfl ?_
  refine ev_geti 5 5 dX6_undo_1 rfl rfl flX6_328 iwX6 (by decide) rfl rfl ?_
  refine ev_if_ne (tgt := 14) dX6_undo_4 (by decide) (by omega) (fun c4 => ?_) (fun c4 => ?_)
  · rw [if_neg (by omega)]
    refine ev_iconst dX6_undo_14 ?_
    refine ev_istore_n dX6_undo_15 (by decide) rfl ?_
    have l := loop 100 0 (by omega)
    rw [show ((0 : Nat) : Int) = 0 from rfl, cpy_0] at l
    exact l
  · rw [if_pos (by omega)]
    refine ev_aload_n dX6_undo_7 rfl ?_
    refine ev_ldc (z := -1000000004) dX6_undo_8 kcX6_162 (by decide) ?_
    refine ev_V1 (c_X6_finds (by omega)) okX6_finds dX6_undo_10 mlX6_101 rfl rfl ⟨by decide, by decide⟩ rfl (Nat.le_of_ble_eq_true rfl) ?_
    refine ev_iret dX6_undo_13 rfl rfl ?_
    exact RP_fnd ha
