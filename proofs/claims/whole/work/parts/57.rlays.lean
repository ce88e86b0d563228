/-! the model's laying and books -/
def lyR (f N : Int → Int) (k : Int) : Int → Int := fun i => if (4 ≤ i ∧ i < 4 + k) ∧ (0 ≤ N (i - 4) ∧ N (i - 4) ≤ 99) then N (i - 4) else f i
theorem lyR_0 {f N : Int → Int} : lyR f N 0 = f := by funext i; unfold lyR; rw [if_neg (by omega)]
theorem lyR_ge {f N : Int → Int} {k i : Int} (h : i < 4 ∨ 4 + k ≤ i) : lyR f N k i = f i := by unfold lyR; rw [if_neg (by omega)]
theorem lyR_y {f N : Int → Int} {k : Int} (h : 0 ≤ k) (hn : 0 ≤ N k ∧ N k ≤ 99) : upw (lyR f N k) (4 + k) (N k) = lyR f N (k + 1) := by
  funext i
  unfold upw lyR
  by_cases e : i = 4 + k
  · rw [if_pos e, show i - 4 = k by omega, if_pos (by omega)]
  · rw [if_neg e]
    by_cases w : (4 ≤ i ∧ i < 4 + k) ∧ (0 ≤ N (i - 4) ∧ N (i - 4) ≤ 99)
    · rw [if_pos w, if_pos ⟨by omega, w.2⟩]
    · rw [if_neg w, if_neg (fun z => w ⟨by omega, z.2⟩)]
theorem lyR_n {f N : Int → Int} {k : Int} (h : 0 ≤ k) (hn : ¬ (0 ≤ N k ∧ N k ≤ 99)) : upw (lyR f N k) (4 + k) (f (4 + k)) = lyR f N (k + 1) := by
  funext i
  unfold upw lyR
  by_cases e : i = 4 + k
  · rw [if_pos e, show i - 4 = k by omega, if_neg (fun z => hn z.2), e]
  · rw [if_neg e]
    by_cases w : (4 ≤ i ∧ i < 4 + k) ∧ (0 ≤ N (i - 4) ∧ N (i - 4) ≤ 99)
    · rw [if_pos w, if_pos ⟨by omega, w.2⟩]
    · rw [if_neg w, if_neg (fun z => w ⟨by omega, z.2⟩)]
theorem c_X6_lays {b : ev_B} {σ : ev_M} {s : Int} (H : okP (wr (σ 47))) (HS : okSR σ) (ha : σ 46 6 = 0) (h1 : (-2147483648 ≤ s ∧ s < 2147483648)) : Cl b mX6_lays [vR 46, vI s] σ (RP σ (sc_lays (prj σ) s)) := by
  refine ev_enter okX6_lays.1 (Nat.le_of_ble_eq_true rfl) ?_
  unfold sc_lays
  have hb : 0 ≤ s ∧ s ≤ 3 → 0 ≤ σ 56 s ∧ σ 56 s ≤ 64 := fun h => by have := (HS s h).1; omega
  refine ev_aload_n dX6_lays_0 rfl ?_
  refine ev_iload_n dX6_lays_1 rfl ?_
  refine ev_V1 (c_X6_wrongSheet h1 hb) okX6_wrongSheet dX6_lays_2 mlX6_318 rfl rfl ⟨by decide, by decide⟩ rfl (Nat.le_of_ble_eq_true rfl) ?_
  by_cases hs : 0 ≤ s ∧ s ≤ 3
  · have hs' : ¬ ¬ (0 ≤ s ∧ s ≤ 3) := fun z => z hs
    rw [if_neg hs', if_neg hs', pS1 hs, pS2 hs]
    obtain ⟨q1, q2, q3⟩ := HS s hs
    have hr : 37 ≤ ev_rt s.toNat ∧ ev_rt s.toNat ≤ 43 := by unfold ev_rt; omega
    by_cases h0 : σ 56 s = 0
    · rw [if_pos h0, if_pos h0]
      refine ev_istore_n dX6_lays_5 (by decide) rfl ?_
      refine ev_iload_n dX6_lays_6 rfl ?_
      refine ev_if_eq (tgt := 16) dX6_lays_7 (by decide) (by omega) (fun c7 => ?_) (fun c7 => ?_)
      · exact absurd c7 (by omega)
      · refine ev_aload_n dX6_lays_10 rfl ?_
        refine ev_iload_n dX6_lays_11 rfl ?_
        refine ev_V1 (c_X6_finds (by omega)) okX6_finds dX6_lays_12 mlX6_101 rfl rfl ⟨by decide, by decide⟩ rfl (Nat.le_of_ble_eq_true rfl) ?_
        refine ev_iret dX6_lays_15 rfl rfl ?_
        exact RP_fnd ha
    · rw [if_neg h0, if_neg h0]
      obtain ⟨n, hn, hn2⟩ := nn_ex q2.1
      rw [hn2]
      generalize hN : prj σ (ev_rt s.toNat + 1) = N
      have hNv : ∀ k, N k = σ 58 (40 * s + k) := fun k => by rw [← hN, pS3 hs]
      have loop : ∀ (m k : Nat) (ls : List (Nat × ev_V)), ev_lk ls 0 = some (vR 46) → ev_lk ls 1 = some (vI s) → ev_lk ls 3 = some (vI (sm (lyN N) k)) → ev_lk ls 4 = some (vI k) → k + m = n → Ev b mX6_lays 21 ls [] (srow σ 47 (lyR (σ 47) N k)) (RP σ (sm (lyN N) n, lyM (prj σ) (ev_rt s.toNat) (σ 57 s))) := by
        intro m
        induction m with
        | zero =>
          intro k ls l0 l1 l3 l4 h
          refine Ev.lsub (ls' := [(0, vR 46), (1, vI s), (3, vI (sm (lyN N) k)), (4, vI k)]) (by simp [l0, l1, l3, l4]) ?_
          have e57 : srow σ 47 (lyR (σ 47) N k) 57 s = σ 57 s := by rw [srow_ne (by decide)]
          refine ev_iload dX6_lays_21 rfl ?_
          refine ev_aload_n dX6_lays_23 rfl ?_
          refine ev_getr 17 dX6_lays_24 rfl rfl flX6_40 iwX6 (by decide) rfl ?_
          refine ev_iload_n dX6_lays_27 rfl ?_
          refine ev_iald dX6_lays_28 rfl (by omega) ?_
          refine ev_icmp_ge (tgt := 111) dX6_lays_29 (by decide) (by omega) (by omega) (fun c29 => ?_) (fun c29 => ?_)
          · refine ev_iload_n dX6_lays_111 rfl ?_
            refine ev_iret dX6_lays_112 rfl rfl ?_
            have e : k = n := by omega
            subst e
            have G : ∀ i : Int, i < 4 ∨ 4 + (k : Int) ≤ i → lyR (σ 47) N k i = σ 47 i := fun i hi => lyR_ge hi
            refine RP_row ha (fun a hx => lyM_ne (by omega)) ?_
            refine ⟨?_, ?_, ?_, ?_, fun c hc => ?_, fun x hx => ?_, fun x hx => ?_⟩
            · exact (G 3 (by omega)).symm
            · exact (G 2 (by omega)).symm
            · exact (G 0 (by omega)).symm
            · exact (G 1 (by omega)).symm
            · show lyM (prj σ) (ev_rt s.toNat) (σ 57 s) 2 c = lyR (σ 47) N k (4 + c)
              unfold lyM lyR
              rw [hN, hn, show 4 + c - 4 = c by omega]
              by_cases w : (0 ≤ c ∧ c < (k : Int)) ∧ (0 ≤ N c ∧ N c ≤ 99)
              · rw [if_pos ⟨rfl, w⟩, if_pos ⟨by omega, w.2⟩]
              · rw [if_neg (fun z => w z.2), if_neg (fun z => w ⟨by omega, z.2⟩)]; rfl
            · have hx2 : 0 ≤ x ∧ x < σ 47 0 := by rw [← lyR_ge (f := σ 47) (N := N) (k := (k : Int)) (i := 0) (by omega)]; exact hx
              exact ⟨(G (52 + 4 * x + 0) (by omega)).symm, (G (52 + 4 * x + 1) (by omega)).symm, (G (52 + 4 * x + 2) (by omega)).symm, (G (52 + 4 * x + 3) (by omega)).symm⟩
            · have hx2 : 0 ≤ x ∧ x < σ 47 1 := by rw [← lyR_ge (f := σ 47) (N := N) (k := (k : Int)) (i := 1) (by omega)]; exact hx
              exact ⟨(G (76 + 3 * x + 0) (by omega)).symm, (G (76 + 3 * x + 1) (by omega)).symm, (G (76 + 3 * x + 2) (by omega)).symm⟩
          · exact absurd c29 (by omega)
        | succ m ih =>
          intro k ls l0 l1 l3 l4 h
          refine Ev.lsub (ls' := [(0, vR 46), (1, vI s), (3, vI (sm (lyN N) k)), (4, vI k)]) (by simp [l0, l1, l3, l4]) ?_
          have e57 : srow σ 47 (lyR (σ 47) N k) 57 s = σ 57 s := by rw [srow_ne (by decide)]
          have e58 : srow σ 47 (lyR (σ 47) N k) 58 (40 * s + k) = N k := by rw [srow_ne (by decide), hNv]
          have nb := q3 k (by omega)
          rw [← hNv] at nb
          refine ev_iload dX6_lays_21 rfl ?_
          refine ev_aload_n dX6_lays_23 rfl ?_
          refine ev_getr 17 dX6_lays_24 rfl rfl flX6_40 iwX6 (by decide) rfl ?_
          refine ev_iload_n dX6_lays_27 rfl ?_
          refine ev_iald dX6_lays_28 rfl (by omega) ?_
          refine ev_icmp_ge (tgt := 111) dX6_lays_29 (by decide) (by omega) (by omega) (fun c29 => ?_) (fun c29 => ?_)
          · exact absurd c29 (by omega)
          · refine ev_aload_n dX6_lays_32 rfl ?_
            refine ev_getr 18 dX6_lays_33 rfl rfl flX6_43 iwX6 (by decide) rfl ?_
            refine ev_bipush dX6_lays_36 (by decide) ?_
            refine ev_iload_n dX6_lays_38 rfl ?_
            refine ev_imul dX6_lays_39 ?_
            refine ev_iload dX6_lays_40 rfl ?_
            refine ev_iadd dX6_lays_42 ?_
            refine ev_lald dX6_lays_43 rfl (by omega) ?_
            rw [e58]
            refine ev_lconst (z := 0) dX6_lays_44 rfl ?_
            refine ev_ldc2 (z := 99) dX6_lays_45 klX6_96 (by decide) ?_
            refine ev_S1 (c_X6_in (by omega) (by omega) (by omega)) okX6_in dX6_lays_48 mlX6_53 ⟨by decide, by decide⟩ rfl (Nat.le_of_ble_eq_true rfl) ?_
            by_cases w : 0 ≤ N k ∧ N k ≤ 99
            · rw [if_pos w]
              have es : sm (lyN N) k + 1 = sm (lyN N) (k + 1) := by
                rw [sm]; unfold lyN; rw [if_pos w]
              refine ev_istore dX6_lays_51 (by decide) rfl ?_
              refine ev_aload_n dX6_lays_53 rfl ?_
              refine ev_getr 0 dX6_lays_54 rfl rfl flX6_7 iwX6 (by decide) rfl ?_
              refine ev_iconst dX6_lays_57 ?_
              refine ev_iload dX6_lays_58 rfl ?_
              refine ev_iadd dX6_lays_60 ?_
              refine ev_iload dX6_lays_61 rfl ?_
              refine ev_if_eq (tgt := 82) dX6_lays_63 (by decide) (by omega) (fun c63 => ?_) (fun c63 => ?_)
              · exact absurd c63 (by omega)
              · refine ev_aload_n dX6_lays_66 rfl ?_
                refine ev_getr 18 dX6_lays_67 rfl rfl flX6_43 iwX6 (by decide) rfl ?_
                refine ev_bipush dX6_lays_70 (by decide) ?_
                refine ev_iload_n dX6_lays_72 rfl ?_
                refine ev_imul dX6_lays_73 ?_
                refine ev_iload dX6_lays_74 rfl ?_
                refine ev_iadd dX6_lays_76 ?_
                refine ev_lald dX6_lays_77 rfl (by omega) ?_
                rw [e58]
                refine ev_l2i dX6_lays_78 ?_
                refine ev_goto (tgt := 91) dX6_lays_79 (by decide) ?_
                refine ev_iast dX6_lays_91 rfl (by omega) ?_
                rw [srow_up, lyR_y (by omega) w]
                refine ev_iload_n dX6_lays_92 rfl ?_
                refine ev_iload dX6_lays_93 rfl ?_
                refine ev_if_eq (tgt := 102) dX6_lays_95 (by decide) (by omega) (fun c95 => ?_) (fun c95 => ?_)
                · exact absurd c95 (by omega)
                · refine ev_iconst dX6_lays_98 ?_
                  refine ev_goto (tgt := 103) dX6_lays_99 (by decide) ?_
                  refine ev_iadd dX6_lays_103 ?_
                  refine ev_istore_n dX6_lays_104 (by decide) rfl ?_
                  refine ev_iinc dX6_lays_105 rfl (by decide) rfl ?_
                  refine ev_goto (tgt := 21) dX6_lays_108 (by decide) ?_
                  rw [es]
                  exact ih (k + 1) _ rfl rfl rfl rfl (by omega)
            · rw [if_neg w]
              have es : sm (lyN N) k + 0 = sm (lyN N) (k + 1) := by
                rw [sm]; unfold lyN; rw [if_neg w]
              have e47 : srow σ 47 (lyR (σ 47) N k) 47 (4 + k) = σ 47 (4 + k) := by rw [srow_at, lyR_ge (by omega)]
              refine ev_istore dX6_lays_51 (by decide) rfl ?_
              refine ev_aload_n dX6_lays_53 rfl ?_
              refine ev_getr 0 dX6_lays_54 rfl rfl flX6_7 iwX6 (by decide) rfl ?_
              refine ev_iconst dX6_lays_57 ?_
              refine ev_iload dX6_lays_58 rfl ?_
              refine ev_iadd dX6_lays_60 ?_
              refine ev_iload dX6_lays_61 rfl ?_
              refine ev_if_eq (tgt := 82) dX6_lays_63 (by decide) (by omega) (fun c63 => ?_) (fun c63 => ?_)
              · refine ev_aload_n dX6_lays_82 rfl ?_
                refine ev_getr 0 dX6_lays_83 rfl rfl flX6_7 iwX6 (by decide) rfl ?_
                refine ev_iconst dX6_lays_86 ?_
                refine ev_iload dX6_lays_87 rfl ?_
                refine ev_iadd dX6_lays_89 ?_
                refine ev_iald dX6_lays_90 rfl (by omega) ?_
                rw [e47]
                refine ev_iast dX6_lays_91 rfl (by omega) ?_
                rw [srow_up, lyR_n (by omega) w]
                refine ev_iload_n dX6_lays_92 rfl ?_
                refine ev_iload dX6_lays_93 rfl ?_
                refine ev_if_eq (tgt := 102) dX6_lays_95 (by decide) (by omega) (fun c95 => ?_) (fun c95 => ?_)
                · refine ev_iconst dX6_lays_102 ?_
                  refine ev_iadd dX6_lays_103 ?_
                  refine ev_istore_n dX6_lays_104 (by decide) rfl ?_
                  refine ev_iinc dX6_lays_105 rfl (by decide) rfl ?_
                  refine ev_goto (tgt := 21) dX6_lays_108 (by decide) ?_
                  rw [es]
                  exact ih (k + 1) _ rfl rfl rfl rfl (by omega)
                · exact absurd rfl c95
              · exact absurd rfl c63
      refine ev_istore_n dX6_lays_5 (by decide) rfl ?_
      refine ev_iload_n dX6_lays_6 rfl ?_
      refine ev_if_eq (tgt := 16) dX6_lays_7 (by decide) (by omega) (fun c7 => ?_) (fun c7 => ?_)
      · refine ev_iconst dX6_lays_16 ?_
        refine ev_istore_n dX6_lays_17 (by decide) rfl ?_
        refine ev_iconst dX6_lays_18 ?_
        refine ev_istore dX6_lays_19 (by decide) rfl ?_
        have l := loop n 0 [(0, vR 46), (1, vI s), (2, vI 0), (3, vI 0), (4, vI 0)] rfl rfl rfl rfl (by omega)
        rw [show ((0 : Nat) : Int) = 0 from rfl, lyR_0, srow_id] at l
        exact l
      · exact absurd rfl c7
  · rw [if_pos hs, if_pos hs]
    refine ev_istore_n dX6_lays_5 (by decide) rfl ?_
    refine ev_iload_n dX6_lays_6 rfl ?_
    refine ev_if_eq (tgt := 16) dX6_lays_7 (by decide) (by omega) (fun c7 => ?_) (fun c7 => ?_)
    · exact absurd c7 (by omega)
    · refine ev_aload_n dX6_lays_10 rfl ?_
      refine ev_iload_n dX6_lays_11 rfl ?_
      refine ev_V1 (c_X6_finds (by omega)) okX6_finds dX6_lays_12 mlX6_101 rfl rfl ⟨by decide, by decide⟩ rfl (Nat.le_of_ble_eq_true rfl) ?_
      refine ev_iret dX6_lays_15 rfl rfl ?_
      exact RP_fnd ha
