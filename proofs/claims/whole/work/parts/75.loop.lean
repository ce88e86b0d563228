/-! the law: its loop -/
theorem law_loop {b : ev_B} (hL : b.2.2.2.2.1 ≤ 3072) (hx : ∀ j : Nat, (-2147483648 ≤ b.2.2.2.2.2 j ∧ b.2.2.2.2.2 j < 2147483648)) : ∀ (m : Nat) (i : Int) (σ : ev_M), 0 ≤ i → (b.2.2.2.2.1 : Int) - i ≤ m → i ≤ 4000 → INV σ → Ev b mL_law 18 [(0, vR 74), (1, vR 0), (2, vR 46), (3, vI i)] [] σ (fun r _ => r = some (vI 1)) := by
  intro m
  induction m with
  | zero =>
    intro i σ h0 hm h4 I
    refine ev_iload_n dL_law_18 rfl ?_
    refine ev_aload_n dL_law_19 rfl ?_
    refine ev_slen dL_law_20 ?_
    refine ev_bipush dL_law_21 (by decide) ?_
    refine ev_isub dL_law_23 ?_
    refine ev_icmp_gt (tgt := 1375) dL_law_24 (by decide) (by omega) (by omega) (fun c24 => ?_) (fun c24 => ?_)
    · refine ev_iconst dL_law_1375 ?_
      refine ev_iret dL_law_1376 rfl (by first | rfl | exact ev_nb) ?_
      rfl
    · exact absurd c24 (by omega)
  | succ m ih =>
    intro i σ h0 hm h4 I
    refine ev_iload_n dL_law_18 rfl ?_
    refine ev_aload_n dL_law_19 rfl ?_
    refine ev_slen dL_law_20 ?_
    refine ev_bipush dL_law_21 (by decide) ?_
    refine ev_isub dL_law_23 ?_
    refine ev_icmp_gt (tgt := 1375) dL_law_24 (by decide) (by omega) (by omega) (fun c24 => ?_) (fun c24 => ?_)
    · refine ev_iconst dL_law_1375 ?_
      refine ev_iret dL_law_1376 rfl (by first | rfl | exact ev_nb) ?_
      rfl
    · have hi : 0 ≤ i ∧ i + 6 ≤ (b.2.2.2.2.1 : Int) := by omega
      have nx : ∀ τ, INV τ → Ev b mL_law 1369 [(0, vR 74), (1, vR 0), (2, vR 46), (3, vI i)] [] τ (fun r _ => r = some (vI 1)) := by
        intro τ J
        refine ev_iinc dL_law_1369 rfl (by decide) rfl ?_
        refine ev_goto (tgt := 18) dL_law_1372 (by decide) ?_
        exact ih (i + 6) τ (by omega) (by omega) (by omega) J
      refine ev_aload_n dL_law_27 rfl ?_
      refine ev_iload_n dL_law_28 rfl ?_
      refine ev_sald dL_law_29 (by omega) ?_
      refine ev_bipush dL_law_30 (by decide) ?_
      refine ev_iand dL_law_32 (Int32.ofInt_toInt _).symm ?_
      have wb := an_63 (x := b.2.2.2.2.2 i.toNat)
      generalize (Int32.ofInt (b.2.2.2.2.2 i.toNat) &&& Int32.ofInt 63).toInt = w at wb ⊢
      by_cases h40 : 40 ≤ w
      · refine ev_tableOut (tgt := 1369) dL_law_33 (by omega) (by omega) (by decide) ?_
        exact nx σ I
      · rcases (show w = 0 ∨ w = 1 ∨ w = 2 ∨ w = 3 ∨ w = 4 ∨ w = 5 ∨ w = 6 ∨ w = 7 ∨ w = 8 ∨ w = 9 ∨ w = 10 ∨ w = 11 ∨ w = 12 ∨ w = 13 ∨ w = 14 ∨ w = 15 ∨ w = 16 ∨ w = 17 ∨ w = 18 ∨ w = 19 ∨ w = 20 ∨ w = 21 ∨ w = 22 ∨ w = 23 ∨ w = 24 ∨ w = 25 ∨ w = 26 ∨ w = 27 ∨ w = 28 ∨ w = 29 ∨ w = 30 ∨ w = 31 ∨ w = 32 ∨ w = 33 ∨ w = 34 ∨ w = 35 ∨ w = 36 ∨ w = 37 ∨ w = 38 ∨ w = 39 by omega) with rfl | rfl | rfl | rfl | rfl | rfl | rfl | rfl | rfl | rfl | rfl | rfl | rfl | rfl | rfl | rfl | rfl | rfl | rfl | rfl | rfl | rfl | rfl | rfl | rfl | rfl | rfl | rfl | rfl | rfl | rfl | rfl | rfl | rfl | rfl | rfl | rfl | rfl | rfl | rfl
        · refine ev_tableIn (off := 175) (tgt := 208) dL_law_33 (by omega) (by omega) (by omega) (by decide) (by decide) ?_
          exact lc_wheat hi hL hx I nx
        · refine ev_tableIn (off := 208) (tgt := 241) dL_law_33 (by omega) (by omega) (by omega) (by decide) (by decide) ?_
          exact lc_cell hi hL hx I nx
        · refine ev_tableIn (off := 241) (tgt := 274) dL_law_33 (by omega) (by omega) (by omega) (by decide) (by decide) ?_
          exact lc_crows hi hL hx I nx
        · refine ev_tableIn (off := 264) (tgt := 297) dL_law_33 (by omega) (by omega) (by omega) (by decide) (by decide) ?_
          exact lc_sitter hi hL hx I nx
        · refine ev_tableIn (off := 287) (tgt := 320) dL_law_33 (by omega) (by omega) (by omega) (by decide) (by decide) ?_
          exact lc_of hi hL hx I nx
        · refine ev_tableIn (off := 320) (tgt := 353) dL_law_33 (by omega) (by omega) (by omega) (by decide) (by decide) ?_
          exact lc_set hi hL hx I nx
        · refine ev_tableIn (off := 363) (tgt := 396) dL_law_33 (by omega) (by omega) (by omega) (by decide) (by decide) ?_
          exact lc_turn hi hL hx I nx
        · refine ev_tableIn (off := 396) (tgt := 429) dL_law_33 (by omega) (by omega) (by omega) (by decide) (by decide) ?_
          exact lc_as hi hL hx I nx
        · refine ev_tableIn (off := 429) (tgt := 462) dL_law_33 (by omega) (by omega) (by omega) (by decide) (by decide) ?_
          exact lc_likeness hi hL hx I nx
        · refine ev_tableIn (off := 462) (tgt := 495) dL_law_33 (by omega) (by omega) (by omega) (by decide) (by decide) ?_
          exact lc_told hi hL hx I nx
        · refine ev_tableIn (off := 495) (tgt := 528) dL_law_33 (by omega) (by omega) (by omega) (by decide) (by decide) ?_
          exact lc_place hi hL hx I nx
        · refine ev_tableIn (off := 538) (tgt := 571) dL_law_33 (by omega) (by omega) (by omega) (by decide) (by decide) ?_
          exact lc_scares hi hL hx I nx
        · refine ev_tableIn (off := 571) (tgt := 604) dL_law_33 (by omega) (by omega) (by omega) (by decide) (by decide) ?_
          exact lc_lands hi hL hx I nx
        · refine ev_tableIn (off := 584) (tgt := 617) dL_law_33 (by omega) (by omega) (by omega) (by decide) (by decide) ?_
          exact lc_days hi hL hx I nx
        · refine ev_tableIn (off := 607) (tgt := 640) dL_law_33 (by omega) (by omega) (by omega) (by decide) (by decide) ?_
          exact lc_now hi hL hx I nx
        · refine ev_tableIn (off := 630) (tgt := 663) dL_law_33 (by omega) (by omega) (by omega) (by decide) (by decide) ?_
          exact lc_on hi hL hx I nx
        · refine ev_tableIn (off := 663) (tgt := 696) dL_law_33 (by omega) (by omega) (by omega) (by decide) (by decide) ?_
          exact lc_eaten hi hL hx I nx
        · refine ev_tableIn (off := 686) (tgt := 719) dL_law_33 (by omega) (by omega) (by omega) (by decide) (by decide) ?_
          exact lc_first hi hL hx I nx
        · refine ev_tableIn (off := 709) (tgt := 742) dL_law_33 (by omega) (by omega) (by omega) (by decide) (by decide) ?_
          exact lc_spot hi hL hx I nx
        · refine ev_tableIn (off := 742) (tgt := 775) dL_law_33 (by omega) (by omega) (by omega) (by decide) (by decide) ?_
          exact lc_whose hi hL hx I nx
        · refine ev_tableIn (off := 775) (tgt := 808) dL_law_33 (by omega) (by omega) (by omega) (by decide) (by decide) ?_
          exact lc_kind hi hL hx I nx
        · refine ev_tableIn (off := 808) (tgt := 841) dL_law_33 (by omega) (by omega) (by omega) (by decide) (by decide) ?_
          exact lc_temper hi hL hx I nx
        · refine ev_tableIn (off := 841) (tgt := 874) dL_law_33 (by omega) (by omega) (by omega) (by decide) (by decide) ?_
          exact lc_keep hi hL hx I nx
        · refine ev_tableIn (off := 864) (tgt := 897) dL_law_33 (by omega) (by omega) (by omega) (by decide) (by decide) ?_
          exact lc_worth hi hL hx I nx
        · refine ev_tableIn (off := 887) (tgt := 920) dL_law_33 (by omega) (by omega) (by omega) (by decide) (by decide) ?_
          exact lc_apart hi hL hx I nx
        · refine ev_tableIn (off := 910) (tgt := 943) dL_law_33 (by omega) (by omega) (by omega) (by decide) (by decide) ?_
          exact lc_swap hi hL hx I nx
        · refine ev_tableIn (off := 933) (tgt := 966) dL_law_33 (by omega) (by omega) (by omega) (by decide) (by decide) ?_
          exact lc_feed hi hL hx I nx
        · refine ev_tableIn (off := 966) (tgt := 999) dL_law_33 (by omega) (by omega) (by omega) (by decide) (by decide) ?_
          exact lc_wipe hi hL hx I nx
        · refine ev_tableIn (off := 979) (tgt := 1012) dL_law_33 (by omega) (by omega) (by omega) (by decide) (by decide) ?_
          exact lc_plain hi hL hx I nx
        · refine ev_tableIn (off := 992) (tgt := 1025) dL_law_33 (by omega) (by omega) (by omega) (by decide) (by decide) ?_
          exact lc_sheet hi hL hx I nx
        · refine ev_tableIn (off := 1035) (tgt := 1068) dL_law_33 (by omega) (by omega) (by omega) (by decide) (by decide) ?_
          exact lc_write hi hL hx I nx
        · refine ev_tableIn (off := 1109) (tgt := 1142) dL_law_33 (by omega) (by omega) (by omega) (by decide) (by decide) ?_
          exact lc_copy hi hL hx I nx
        · refine ev_tableIn (off := 1172) (tgt := 1205) dL_law_33 (by omega) (by omega) (by omega) (by decide) (by decide) ?_
          exact lc_lays hi hL hx I nx
        · refine ev_tableIn (off := 1195) (tgt := 1228) dL_law_33 (by omega) (by omega) (by omega) (by decide) (by decide) ?_
          exact lc_book hi hL hx I nx
        · refine ev_tableIn (off := 1218) (tgt := 1251) dL_law_33 (by omega) (by omega) (by omega) (by decide) (by decide) ?_
          exact lc_read hi hL hx I nx
        · refine ev_tableIn (off := 1251) (tgt := 1284) dL_law_33 (by omega) (by omega) (by omega) (by decide) (by decide) ?_
          exact lc_image hi hL hx I nx
        · refine ev_tableIn (off := 1264) (tgt := 1297) dL_law_33 (by omega) (by omega) (by omega) (by decide) (by decide) ?_
          exact lc_undo hi hL hx I nx
        · refine ev_tableIn (off := 1277) (tgt := 1310) dL_law_33 (by omega) (by omega) (by omega) (by decide) (by decide) ?_
          exact lc_tear hi hL hx I nx
        · refine ev_tableIn (off := 1290) (tgt := 1323) dL_law_33 (by omega) (by omega) (by omega) (by decide) (by decide) ?_
          exact lc_count hi hL hx I nx
        · refine ev_tableIn (off := 1313) (tgt := 1346) dL_law_33 (by omega) (by omega) (by omega) (by decide) (by decide) ?_
          exact lc_status hi hL hx I nx
