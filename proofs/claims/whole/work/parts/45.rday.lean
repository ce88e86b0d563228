/-! days of like plains, whoever is there -/
section EQs
variable {P P' : ev_M} {pr : Int → Bool}
theorem eqP_scr (h : eqP P' P) (H : okP P) {l : Int} (hl : 0 ≤ l ∧ l < P 0 8) : cnt P' l = cnt P l ∧ ∀ d, scr P' l d = scr P l d := by
  obtain ⟨a1, a2, a3⟩ := h.2.2.2.2.2.2 l hl
  have q := (H.2.2.2.2.2.2 l hl).2.1
  obtain ⟨b1, b2, b3, b4⟩ := h.2.2.2.2.2.1 (P 7 l) q
  have e : cnt P' l = cnt P l := by
    unfold cnt
    rw [a2, a3, b1, b2]
  refine ⟨e, fun d => ?_⟩
  unfold scr
  rw [e, a2, b1]
theorem eqP_mstP (h : eqP P' P) (H : okP P) {c k s : Int} : ∀ {n : Nat}, (n : Int) ≤ P 0 8 → mst P' pr (scr P') c k s n = mst P pr (scr P) c k s n
  | 0, _ => rfl
  | n + 1, hn => by
    have ih := eqP_mstP h H (c := c) (k := k) (s := s) (n := n) (by omega)
    obtain ⟨a1, a2, a3⟩ := h.2.2.2.2.2.2 n (by omega)
    unfold mst
    rw [ih, a1, a2, (eqP_scr h H (l := n) (by omega)).2]
theorem eqP_fearP (h : eqP P' P) (H : okP P) (c : Int) : fear P' pr c = fear P pr c := by
  have h8 := H.2.2.2.1
  unfold fear fearT
  rw [h.2.2.1, h.2.2.2.1]
  apply sm_congr
  intro k _
  rw [eqP_mstP h H (by omega)]
theorem eqP_mtsP (h : eqP P' P) (k : Int) {n : Nat} (hn : (n : Int) ≤ P 0 8) : mts P' pr k n = mts P pr k n := by
  unfold mts
  refine sm_congr (fun l hl => sm_congr (fun o ho => ?_))
  obtain ⟨a1, a2, a3⟩ := h.2.2.2.2.2.2 l (by omega)
  obtain ⟨b1, b2, b3⟩ := h.2.2.2.2.2.2 o (by omega)
  unfold mpr
  rw [a1, a2, b1, b2]
theorem eqP_dayP (h : eqP P' P) (H : okP P) : eqP (dayM P' pr) (dayM P pr) ∧ dayE P' pr = dayE P pr := by
  have hw : ∀ c : Int, 0 ≤ c ∧ c < 48 → P' 1 c = P 1 c ∧ fear P' pr c = fear P pr c := fun c hc => ⟨h.2.2.2.2.1 c hc, eqP_fearP h H c⟩
  have ec := eatc_congr2 hw (P 0 1).toNat
  have e1 := h.1
  have e3 := h.2.2.1
  have e8 := h.2.2.2.1
  have H8 := H.2.2.2.1
  refine ⟨⟨h.1, ?_, h.2.2.1, h.2.2.2.1, fun c hc => ?_, fun k hk => ?_, fun l hl => ?_⟩, ?_⟩
  · show P' 0 2 + 1 = P 0 2 + 1
    rw [h.2.1]
  · show (eatc (fear P' pr) (P' 1) (P' 0 1).toNat).1 c = (eatc (fear P pr) (P 1) (P 0 1).toNat).1 c
    rw [h.1]
    exact ec.2 c hc
  · have hk2 : 0 ≤ k ∧ k < P 0 3 := hk
    obtain ⟨b1, b2, b3, b4⟩ := h.2.2.2.2.2.1 k hk2
    refine ⟨b1, ?_, b3, b4⟩
    show (if 0 ≤ k ∧ k < P' 0 3 then max 0 (P' 3 k - mts P' pr k (P' 0 8).toNat) else P' 3 k) = (if 0 ≤ k ∧ k < P 0 3 then max 0 (P 3 k - mts P pr k (P 0 8).toNat) else P 3 k)
    rw [if_pos (by omega), if_pos hk2, b2, e8, eqP_mtsP h k (by omega)]
  · have hl2 : 0 ≤ l ∧ l < P 0 8 := hl
    obtain ⟨a1, a2, a3⟩ := h.2.2.2.2.2.2 l hl2
    refine ⟨a1, a2, ?_⟩
    show (if 0 ≤ l ∧ l < P' 0 8 then min 9999 (P' 8 l + 1) else P' 8 l) = (if 0 ≤ l ∧ l < P 0 8 then min 9999 (P 8 l + 1) else P 8 l)
    rw [if_pos (by omega), if_pos (by omega), a3]
  · show (eatc (fear P' pr) (P' 1) (P' 0 1).toNat).2 = (eatc (fear P pr) (P 1) (P 0 1).toNat).2
    rw [h.1]
    exact ec.1
theorem eqP_dayNP (h : eqP P' P) (H : okP P) : ∀ n : Nat, eqP (dayN P' pr n) (dayN P pr n)
  | 0 => h
  | n + 1 => (eqP_dayP (eqP_dayNP h H n) (okP_dayN H n)).1
theorem eqP_eatP (h : eqP P' P) (H : okP P) : ∀ n : Nat, eatN P' pr n = eatN P pr n
  | 0 => rfl
  | n + 1 => by rw [eatN_s, eatN_s, eqP_eatP h H n, (eqP_dayP (eqP_dayNP h H n) (okP_dayN H n)).2]
end EQs
theorem c_X6_landsAt {b : ev_B} {σ : ev_M} (hw : ∀ c : Int, 0 ≤ c ∧ c < 48 → 0 ≤ σ 47 (4 + c) ∧ σ 47 (4 + c) ≤ 99) (hf : ∀ c : Int, 0 ≤ c ∧ c < 48 → -6000 ≤ σ 52 c ∧ σ 52 c ≤ 6000) : CF b mX6_landsAt [vR 46] σ (some (vI (lnd (fun c => σ 47 (4 + c)) (σ 52) 48))) σ := by
  refine ev_enter okX6_landsAt.1 (Nat.le_of_ble_eq_true rfl) ?_
  generalize hW : (fun c => σ 47 (4 + c)) = W
  have hWv : ∀ c, σ 47 (4 + c) = W c := fun c => by rw [← hW]
  have loop : ∀ (m i : Nat) (ls : List (Nat × ev_V)), ev_lk ls 0 = some (vR 46) → ev_lk ls 1 = some (vI (lnd W (σ 52) i)) → ev_lk ls 2 = some (vI i) → i + m = 48 → Ev b mX6_landsAt 4 ls [] σ (fun r' τ' => r' = some (vI (lnd W (σ 52) 48)) ∧ τ' = σ) := by
    intro m
    induction m with
    | zero =>
      intro i ls l0 l1 l2 h
      refine Ev.lsub (ls' := [(0, vR 46), (1, vI (lnd W (σ 52) i)), (2, vI i)]) (by simp [l0, l1, l2]) ?_
      refine ev_iload_n dX6_landsAt_4 rfl ?_
      refine ev_bipush dX6_landsAt_5 (by decide) ?_
      refine ev_icmp_ge (tgt := 91) dX6_landsAt_7 (by decide) (by omega) (by omega) (fun c7 => ?_) (fun c7 => ?_)
      · refine ev_iload_n dX6_landsAt_91 rfl ?_
        refine ev_iret dX6_landsAt_92 rfl rfl ?_
        have e : i = 48 := by omega
        subst e
        exact ⟨rfl, rfl⟩
      · exact absurd c7 (by omega)
    | succ m ih =>
      intro i ls l0 l1 l2 h
      refine Ev.lsub (ls' := [(0, vR 46), (1, vI (lnd W (σ 52) i)), (2, vI i)]) (by simp [l0, l1, l2]) ?_
      have w1 := hw i (by omega)
      have f1 := hf i (by omega)
      have lb := lnd_bd W (σ 52) i
      have ew := hWv i
      have ew2 := hWv (lnd W (σ 52) i)
      have wb : 0 ≤ lnd W (σ 52) i → (0 ≤ σ 47 (4 + lnd W (σ 52) i) ∧ σ 47 (4 + lnd W (σ 52) i) ≤ 99) ∧ -6000 ≤ σ 52 (lnd W (σ 52) i) ∧ σ 52 (lnd W (σ 52) i) ≤ 6000 := fun q => ⟨hw _ (by omega), hf _ (by omega)⟩
      have J : ∀ (x : Int) (ls : List (Nat × ev_V)), x = lnd W (σ 52) (i + 1) → ev_lk ls 0 = some (vR 46) → ev_lk ls 2 = some (vI i) → Ev b mX6_landsAt 84 ls [vI x] σ (fun r' τ' => r' = some (vI (lnd W (σ 52) 48)) ∧ τ' = σ) := by
        intro x ls hx l0 l2
        refine Ev.lsub (ls' := [(0, vR 46), (2, vI i)]) (by simp [l0, l2]) ?_
        refine ev_istore_n dX6_landsAt_84 (by decide) rfl ?_
        refine ev_iinc dX6_landsAt_85 rfl (by decide) rfl ?_
        refine ev_goto (tgt := 4) dX6_landsAt_88 (by decide) ?_
        exact ih (i + 1) _ rfl (by rw [← hx]; rfl) rfl (by omega)
      have stay : ¬ (0 < W i ∧ σ 52 i < 20 ∧ (lnd W (σ 52) i < 0 ∨ W (lnd W (σ 52) i) - σ 52 (lnd W (σ 52) i) < W i - σ 52 i)) → lnd W (σ 52) i = lnd W (σ 52) (i + 1) := fun hno => by rw [lnd, if_neg hno]
      have move : (0 < W i ∧ σ 52 i < 20 ∧ (lnd W (σ 52) i < 0 ∨ W (lnd W (σ 52) i) - σ 52 (lnd W (σ 52) i) < W i - σ 52 i)) → (i : Int) = lnd W (σ 52) (i + 1) := fun hy => by rw [lnd, if_pos hy]
      refine ev_iload_n dX6_landsAt_4 rfl ?_
      refine ev_bipush dX6_landsAt_5 (by decide) ?_
      refine ev_icmp_ge (tgt := 91) dX6_landsAt_7 (by decide) (by omega) (by omega) (fun c7 => ?_) (fun c7 => ?_)
      · exact absurd c7 (by omega)
      · refine ev_aload_n dX6_landsAt_10 rfl ?_
        refine ev_getr 0 dX6_landsAt_11 rfl rfl flX6_7 iwX6 (by decide) rfl ?_
        refine ev_iconst dX6_landsAt_14 ?_
        refine ev_iload_n dX6_landsAt_15 rfl ?_
        refine ev_iadd dX6_landsAt_16 ?_
        refine ev_iald dX6_landsAt_17 rfl (by omega) ?_
        refine ev_if_le (tgt := 36) dX6_landsAt_18 (by decide) (by omega) (fun c18 => ?_) (fun c18 => ?_)
        · refine ev_iconst dX6_landsAt_36 ?_
          refine ev_istore_n dX6_landsAt_37 (by decide) rfl ?_
          refine ev_iload_n dX6_landsAt_38 rfl ?_
          refine ev_if_eq (tgt := 83) dX6_landsAt_39 (by decide) (by omega) (fun c39 => ?_) (fun c39 => ?_)
          · refine ev_iload_n dX6_landsAt_83 rfl ?_
            exact J _ _ (stay (by omega)) rfl rfl
          · exact absurd c39 (by omega)
        · refine ev_aload_n dX6_landsAt_21 rfl ?_
          refine ev_getr 7 dX6_landsAt_22 rfl rfl flX6_25 iwX6 (by decide) rfl ?_
          refine ev_iload_n dX6_landsAt_25 rfl ?_
          refine ev_iald dX6_landsAt_26 rfl (by omega) ?_
          refine ev_bipush dX6_landsAt_27 (by decide) ?_
          refine ev_icmp_ge (tgt := 36) dX6_landsAt_29 (by decide) (by omega) (by omega) (fun c29 => ?_) (fun c29 => ?_)
          · refine ev_iconst dX6_landsAt_36 ?_
            refine ev_istore_n dX6_landsAt_37 (by decide) rfl ?_
            refine ev_iload_n dX6_landsAt_38 rfl ?_
            refine ev_if_eq (tgt := 83) dX6_landsAt_39 (by decide) (by omega) (fun c39 => ?_) (fun c39 => ?_)
            · refine ev_iload_n dX6_landsAt_83 rfl ?_
              exact J _ _ (stay (by omega)) rfl rfl
            · exact absurd c39 (by omega)
          · refine ev_iconst dX6_landsAt_32 ?_
            refine ev_goto (tgt := 37) dX6_landsAt_33 (by decide) ?_
            refine ev_istore_n dX6_landsAt_37 (by decide) rfl ?_
            refine ev_iload_n dX6_landsAt_38 rfl ?_
            refine ev_if_eq (tgt := 83) dX6_landsAt_39 (by decide) (by omega) (fun c39 => ?_) (fun c39 => ?_)
            · exact absurd c39 (by omega)
            · refine ev_iload_n dX6_landsAt_42 rfl ?_
              refine ev_if_lt (tgt := 79) dX6_landsAt_43 (by decide) (by omega) (fun c43 => ?_) (fun c43 => ?_)
              · refine ev_iload_n dX6_landsAt_79 rfl ?_
                refine ev_goto (tgt := 84) dX6_landsAt_80 (by decide) ?_
                exact J _ _ (move (by omega)) rfl rfl
              · have wb2 := wb (by omega)
                refine ev_aload_n dX6_landsAt_46 rfl ?_
                refine ev_getr 0 dX6_landsAt_47 rfl rfl flX6_7 iwX6 (by decide) rfl ?_
                refine ev_iconst dX6_landsAt_50 ?_
                refine ev_iload_n dX6_landsAt_51 rfl ?_
                refine ev_iadd dX6_landsAt_52 ?_
                refine ev_iald dX6_landsAt_53 rfl (by omega) ?_
                refine ev_aload_n dX6_landsAt_54 rfl ?_
                refine ev_getr 7 dX6_landsAt_55 rfl rfl flX6_25 iwX6 (by decide) rfl ?_
                refine ev_iload_n dX6_landsAt_58 rfl ?_
                refine ev_iald dX6_landsAt_59 rfl (by omega) ?_
                refine ev_isub dX6_landsAt_60 ?_
                refine ev_aload_n dX6_landsAt_61 rfl ?_
                refine ev_getr 0 dX6_landsAt_62 rfl rfl flX6_7 iwX6 (by decide) rfl ?_
                refine ev_iconst dX6_landsAt_65 ?_
                refine ev_iload_n dX6_landsAt_66 rfl ?_
                refine ev_iadd dX6_landsAt_67 ?_
                refine ev_iald dX6_landsAt_68 rfl (by omega) ?_
                refine ev_aload_n dX6_landsAt_69 rfl ?_
                refine ev_getr 7 dX6_landsAt_70 rfl rfl flX6_25 iwX6 (by decide) rfl ?_
                refine ev_iload_n dX6_landsAt_73 rfl ?_
                refine ev_iald dX6_landsAt_74 rfl (by omega) ?_
                refine ev_isub dX6_landsAt_75 ?_
                refine ev_icmp_le (tgt := 83) dX6_landsAt_76 (by decide) (by omega) (by omega) (fun c76 => ?_) (fun c76 => ?_)
                · refine ev_iload_n dX6_landsAt_83 rfl ?_
                  exact J _ _ (stay (by omega)) rfl rfl
                · refine ev_iload_n dX6_landsAt_79 rfl ?_
                  refine ev_goto (tgt := 84) dX6_landsAt_80 (by decide) ?_
                  exact J _ _ (move (by omega)) rfl rfl
  refine ev_iconst dX6_landsAt_0 ?_
  refine ev_istore_n dX6_landsAt_1 (by decide) rfl ?_
  refine ev_iconst dX6_landsAt_2 ?_
  refine ev_istore_n dX6_landsAt_3 (by decide) rfl ?_
  exact loop 48 0 _ rfl rfl rfl (by omega)
theorem fear_bd {P : ev_M} {pr : Int → Bool} {c : Int} (H : okP P) (hc : 0 ≤ c ∧ c < 48) : -6000 ≤ fear P pr c ∧ fear P pr c ≤ 6000 := by
  have h8 := H.2.2.2.1
  refine fearT_bd (by omega) H.2.2.1 (fun l hl => ?_)
  have q := H.2.2.2.2.2.2 l (by omega)
  have := scr_bd (l := l) (d := sp_dist (P 6 l) c) H (by omega) (sp_dist_bd q.1 hc).1
  omega
theorem RP_fr {σ τ : ev_M} {v : Int} (h : σ 46 6 = 0) (H : okP (wr (σ 47))) (h1 : ∀ a : Nat, a < 46 ∨ a = 48 ∨ a = 51 ∨ (55 ≤ a ∧ a ≤ 58) → τ a = σ a) (h2 : eqS (τ 47) (σ 47)) (h3 : τ 46 = σ 46) : RP σ (v, prj σ) (some (vI v)) τ := by
  refine RP_S (by rw [h3]; exact h) (fun _ _ => rfl) ?_ (fun a _ ha => h1 a ha) (by rw [h3]) (by rw [h3])
  rw [prj_1]
  exact eqP_symm (eqS_wr h2 H)
theorem c_X6_lands {b : ev_B} {σ : ev_M} (H : okP (wr (σ 47))) (ha : σ 46 6 = 0) : Cl b mX6_lands [vR 46] σ (RP σ (sc_lands (prj σ))) := by
  refine ev_enter okX6_lands.1 (Nat.le_of_ble_eq_true rfl) ?_
  unfold sc_lands
  rw [prj_1]
  refine ev_aload_n dX6_lands_0 rfl ?_
  refine ev_callV (c_X6_fearsNow H (by omega)) okX6_fearsNow dX6_lands_1 mlX6_155 rfl rfl ⟨by decide, by decide⟩ rfl (Nat.le_of_ble_eq_true rfl) (fun r1 τ1 h1 => ?_)
  obtain ⟨rfl, g1, g2⟩ := h1
  rw [ha, prA_0] at g1
  have e47 := g2 47 (by omega)
  have hw : ∀ c : Int, 0 ≤ c ∧ c < 48 → 0 ≤ τ1 47 (4 + c) ∧ τ1 47 (4 + c) ≤ 99 := fun c hc => by rw [e47]; exact okrw H hc
  have hf : ∀ c : Int, 0 ≤ c ∧ c < 48 → -6000 ≤ τ1 52 c ∧ τ1 52 c ≤ 6000 := fun c hc => by rw [g1 c hc]; exact fear_bd H hc
  have el : lnd (fun c => τ1 47 (4 + c)) (τ1 52) 48 = lnd (prj σ 2) (fear (wr (σ 47)) allp) 48 := by
    refine lnd_congr (fun c hc => ⟨?_, g1 c hc⟩)
    rw [e47]; rfl
  have lb := lnd_bd (prj σ 2) (fear (wr (σ 47)) allp) 48
  refine ev_aload_n dX6_lands_4 rfl ?_
  refine ev_V1 (c_X6_landsAt hw hf) okX6_landsAt dX6_lands_5 mlX6_158 rfl rfl ⟨by decide, by decide⟩ rfl (Nat.le_of_ble_eq_true rfl) ?_
  refine ev_istore_n dX6_lands_8 (by decide) rfl ?_
  refine ev_iload_n dX6_lands_9 rfl ?_
  refine ev_if_ge (tgt := 22) dX6_lands_10 (by decide) (by omega) (fun c10 => ?_) (fun c10 => ?_)
  all_goals rw [el]
  all_goals rw [el] at c10
  · rw [if_neg (by omega)]
    refine ev_iload_n dX6_lands_22 rfl ?_
    refine ev_iret dX6_lands_23 rfl rfl ?_
    exact RP_fr ha H (fun a hx => g2 a (by omega)) (by rw [e47]; exact eqS_rf) (g2 46 (by omega))
  · rw [if_pos (by omega)]
    refine ev_aload_n dX6_lands_13 rfl ?_
    refine ev_ldc (z := -1000000004) dX6_lands_14 kcX6_162 (by decide) ?_
    refine ev_V1 (c_X6_finds (by omega)) okX6_finds dX6_lands_16 mlX6_101 rfl rfl ⟨by decide, by decide⟩ rfl (Nat.le_of_ble_eq_true rfl) ?_
    refine ev_goto (tgt := 23) dX6_lands_19 (by decide) ?_
    refine ev_iret dX6_lands_23 rfl rfl ?_
    refine ⟨rfl, ?_, fun a hx => by rw [mup_ne (by omega)]; exact g2 a (by omega), by rw [mup_ne (by omega), g2 46 (by omega)]; exact ha⟩
    have e51 : τ1 51 = σ 51 := g2 51 (by omega)
    have z := prj_51 (σ := τ1) (i := 3) (v := τ1 51 3 + 1)
    refine REL_tr ?_ z
    have pe : ∀ a : Nat, a = 0 ∨ 1 ≤ a → prj τ1 a = prj σ a := fun a _ => by
      funext i
      unfold prj
      rw [g2 46 (by omega), e47, g2 48 (by omega), g2 55 (by omega), g2 56 (by omega), g2 57 (by omega), g2 58 (by omega), e51]
    have pe2 : prj τ1 = prj σ := funext (fun a => pe a (by omega))
    rw [pe2, e51]
    exact REL_rf
