/-! the model's calls -/
theorem RP_up {σ : ev_M} {a : Nat} {c x v K : Int} (h0 : σ 46 6 = 0) (ha : 1 ≤ a ∧ a ≤ 9) (h : eqP (mup (wr (σ 47)) (a - 1) c x) (wr (upw (σ 47) K x))) : RP σ (v, mup (prj σ) a c x) (some (vI v)) (mup σ 47 K x) := by
  refine ⟨rfl, prj_47 (σ := σ) ?_ (fun y hy => mup_ne (by omega)) (fun y hy _ => mup_ne hy) rfl rfl, fun y hy => mup_ne (by omega), h0⟩
  show eqP (wn (mup (prj σ) a c x) 1) (wr (mup σ 47 K x 47))
  rw [mup_row]
  have e : mup (prj σ) a c x = mup (prj σ) (1 + (a - 1)) c x := by rw [show 1 + (a - 1) = a by omega]
  rw [e, wn_mup (by omega), prj_1]
  exact h
theorem c_X6_fear {b : ev_B} {σ : ev_M} {c : Int} (H : okP (wr (σ 47))) (ha : 0 ≤ σ 46 6 ∧ σ 46 6 < 256) (hc : 0 ≤ c ∧ c < 48) : CF b mX6_fear [vR 46, vI c] σ (some (vI (fear (wr (σ 47)) (prA (σ 46 6)) c))) σ := by
  refine ev_enter okX6_fear.1 (Nat.le_of_ble_eq_true rfl) ?_
  rw [← fear_R H hc]
  have h0 := okr0 H
  unfold fearT
  obtain ⟨ns, hns, hns2⟩ := nn_ex h0.2.2.1.1
  obtain ⟨nl, hnl, hnl2⟩ := nn_ex h0.2.2.2.1
  have en : (wr (σ 47) 0 3).toNat = ns := hns2
  have el : (wr (σ 47) 0 8).toNat = nl := hnl2
  rw [en, el]
  generalize hP : wr (σ 47) = P at *
  generalize hM : (fun (k : Int) (n : Nat) => mst P (prA (σ 46 6)) (scr P) c k (-1000) n) = M
  have hMv : ∀ k n, M k n = mst P (prA (σ 46 6)) (scr P) c k (-1000) n := fun k n => by rw [← hM]
  have hMb : ∀ k n, n ≤ nl → -1000 ≤ M k n ∧ M k n ≤ 1000 := fun k n hn => by
    rw [hMv]
    have q := mst_bd2 (P := P) (pr := prA (σ 46 6)) (tb := scr P) (c := c) (k := k) (s := -1000) (by omega) (n := n) (fun l hl => by
      have e8 : P 0 8 = σ 47 1 := by rw [← hP]; rfl
      have z := H.2.2.2.2.2.2 l (by omega)
      have := scr_bd (l := l) (d := sp_dist (P 6 l) c) H (by omega) (sp_dist_bd z.1 hc).1
      omega)
    omega
  simp only [← hMv]
  have inner : ∀ (k : Nat) (S : Int), k < ns → (Ev b mX6_fear 94 [(0, vR 46), (1, vI c), (2, vI S), (3, vI k), (4, vI (M k nl))] [] σ (fun r τ => r = some (vI (sm (fun k => if M k nl = -1000 then 0 else M k nl) ns)) ∧ τ = σ)) → ∀ (m l : Nat) (ls : List (Nat × ev_V)), ev_lk ls 0 = some (vR 46) → ev_lk ls 1 = some (vI c) → ev_lk ls 2 = some (vI S) → ev_lk ls 3 = some (vI k) → ev_lk ls 4 = some (vI (M k l)) → ev_lk ls 5 = some (vI l) → l + m = nl → Ev b mX6_fear 22 ls [] σ (fun r τ => r = some (vI (sm (fun k => if M k nl = -1000 then 0 else M k nl) ns)) ∧ τ = σ) := by
    intro k S hk K m
    induction m with
    | zero =>
      intro l ls l0 l1 l2 l3 l4 l5 hl
      refine Ev.lsub (ls' := [(0, vR 46), (1, vI c), (2, vI S), (3, vI k), (4, vI (M k l)), (5, vI l)]) (by simp [l0, l1, l2, l3, l4, l5]) ?_
      refine ev_iload dX6_fear_22 rfl ?_
      refine ev_aload_n dX6_fear_24 rfl ?_
      refine ev_getr 0 dX6_fear_25 rfl rfl flX6_7 iwX6 (by decide) rfl ?_
      refine ev_iconst dX6_fear_28 ?_
      refine ev_iald dX6_fear_29 rfl (by omega) ?_
      refine ev_icmp_ge (tgt := 94) dX6_fear_30 (by decide) (by omega) (by omega) (fun c30 => ?_) (fun c30 => ?_)
      · have e : l = nl := by omega
        subst e
        refine Ev.lsub (ls' := [(0, vR 46), (1, vI c), (2, vI S), (3, vI k), (4, vI (M k l))]) (by simp [ev_lk]) K
      · exact absurd c30 (by omega)
    | succ m ih =>
      intro l ls l0 l1 l2 l3 l4 l5 hl
      refine Ev.lsub (ls' := [(0, vR 46), (1, vI c), (2, vI S), (3, vI k), (4, vI (M k l)), (5, vI l)]) (by simp [l0, l1, l2, l3, l4, l5]) ?_
      have H' : okP (wr (σ 47)) := by rw [hP]; exact H
      have q := okrl H' (l := l) (by omega)
      have mb := hMb k l (by omega)
      have e7 : P 7 l = σ 47 (76 + 3 * l + 1) := by rw [← hP]; rfl
      have e6 : P 6 l = σ 47 (76 + 3 * l + 0) := by rw [← hP]; rfl
      have sd := sp_dist_bd hc q.1
      have e8 : P 0 8 = σ 47 1 := by rw [← hP]; rfl
      have sb : -15 ≤ scr P l (sp_dist c (σ 47 (76 + 3 * l + 0))) ∧ scr P l (sp_dist c (σ 47 (76 + 3 * l + 0))) ≤ 70 := scr_bd (l := l) H (by omega) sd.1
      have nx : ∀ (v : Int) (ls : List (Nat × ev_V)), v = M k (l + 1 : Nat) → ev_lk ls 0 = some (vR 46) → ev_lk ls 1 = some (vI c) → ev_lk ls 2 = some (vI S) → ev_lk ls 3 = some (vI k) → ev_lk ls 4 = some (vI v) → ev_lk ls 5 = some (vI l) → Ev b mX6_fear 88 ls [] σ (fun r τ => r = some (vI (sm (fun k => if M k nl = -1000 then 0 else M k nl) ns)) ∧ τ = σ) := by
        intro v ls hv l0 l1 l2 l3 l4 l5
        refine Ev.lsub (ls' := [(0, vR 46), (1, vI c), (2, vI S), (3, vI k), (4, vI v), (5, vI l)]) (by simp [l0, l1, l2, l3, l4, l5]) ?_
        refine ev_iinc dX6_fear_88 rfl (by decide) rfl ?_
        refine ev_goto (tgt := 22) dX6_fear_91 (by decide) ?_
        exact ih (l + 1) _ rfl rfl rfl rfl (by rw [← hv]; rfl) rfl (by omega)
      have mn : ¬ (P 7 l = k ∧ prA (σ 46 6) l = true) → M k l = M k (l + 1 : Nat) := fun z => by
        rw [hMv, hMv, mst, if_neg z]
      have my : P 7 l = k → prA (σ 46 6) l = true → M k (l + 1 : Nat) = max (M k l) (scr P l (sp_dist c (σ 47 (76 + 3 * l + 0)))) := fun z1 z2 => by
        rw [hMv, hMv, mst, if_pos ⟨z1, z2⟩, e6, sp_dist_comm]
      refine ev_iload dX6_fear_22 rfl ?_
      refine ev_aload_n dX6_fear_24 rfl ?_
      refine ev_getr 0 dX6_fear_25 rfl rfl flX6_7 iwX6 (by decide) rfl ?_
      refine ev_iconst dX6_fear_28 ?_
      refine ev_iald dX6_fear_29 rfl (by omega) ?_
      refine ev_icmp_ge (tgt := 94) dX6_fear_30 (by decide) (by omega) (by omega) (fun c30 => ?_) (fun c30 => ?_)
      · exact absurd c30 (by omega)
      · refine ev_aload_n dX6_fear_33 rfl ?_
        refine ev_iload dX6_fear_34 rfl ?_
        refine ev_iconst dX6_fear_36 ?_
        refine ev_V1 (c_X6_likes (by omega)) okX6_likes dX6_fear_37 mlX6_70 rfl rfl ⟨by decide, by decide⟩ rfl (Nat.le_of_ble_eq_true rfl) ?_
        refine ev_iload_n dX6_fear_40 rfl ?_
        refine ev_icmp_ne (tgt := 88) dX6_fear_41 (by decide) (by omega) (by omega) (fun c41 => ?_) (fun c41 => ?_)
        · exact nx _ _ (mn (fun z => by omega)) rfl rfl rfl rfl rfl rfl
        · refine ev_aload_n dX6_fear_44 rfl ?_
          refine ev_iload dX6_fear_45 rfl ?_
          refine ev_Vbeq (tgt := 88) (c_X6_isThere (by omega) ha) okX6_isThere dX6_fear_47 mlX6_83 rfl rfl ⟨by decide, by decide⟩ rfl (Nat.le_of_ble_eq_true rfl) dX6_fear_50 (by decide) (fun c47 => ?_) (fun c47 => ?_)
          · exact nx _ _ (mn (fun z => c47 z.2)) rfl rfl rfl rfl rfl rfl
          · refine ev_aload_n dX6_fear_53 rfl ?_
            refine ev_iload dX6_fear_54 rfl ?_
            refine ev_iload_n dX6_fear_56 rfl ?_
            refine ev_aload_n dX6_fear_57 rfl ?_
            refine ev_iload dX6_fear_58 rfl ?_
            refine ev_iconst dX6_fear_60 ?_
            refine ev_V1 (c_X6_likes (by omega)) okX6_likes dX6_fear_61 mlX6_70 rfl rfl ⟨by decide, by decide⟩ rfl (Nat.le_of_ble_eq_true rfl) ?_
            refine ev_S1 (c_X6_far (by omega) (by omega)) okX6_far dX6_fear_64 mlX6_87 ⟨by decide, by decide⟩ rfl (Nat.le_of_ble_eq_true rfl) ?_
            refine ev_V1 (c_X6_scared H' (by omega) (by omega)) okX6_scared dX6_fear_67 mlX6_90 rfl rfl ⟨by decide, by decide⟩ rfl (Nat.le_of_ble_eq_true rfl) ?_
            rw [hP]
            have mm := my (by omega) c47
            refine ev_istore dX6_fear_70 (by decide) rfl ?_
            refine ev_iload dX6_fear_72 rfl ?_
            refine ev_iload dX6_fear_74 rfl ?_
            refine ev_icmp_le (tgt := 84) dX6_fear_76 (by decide) (by omega) (by omega) (fun c76 => ?_) (fun c76 => ?_)
            · refine ev_iload dX6_fear_84 rfl ?_
              refine ev_istore dX6_fear_86 (by decide) rfl ?_
              exact nx _ _ (by rw [mm]; omega) rfl rfl rfl rfl rfl rfl
            · refine ev_iload dX6_fear_79 rfl ?_
              refine ev_goto (tgt := 86) dX6_fear_81 (by decide) ?_
              refine ev_istore dX6_fear_86 (by decide) rfl ?_
              exact nx _ _ (by rw [mm]; omega) rfl rfl rfl rfl rfl rfl
  have outer : ∀ (m k : Nat) (ls : List (Nat × ev_V)), ev_lk ls 0 = some (vR 46) → ev_lk ls 1 = some (vI c) → ev_lk ls 2 = some (vI (sm (fun k => if M k nl = -1000 then 0 else M k nl) k)) → ev_lk ls 3 = some (vI k) → k + m = ns → Ev b mX6_fear 4 ls [] σ (fun r τ => r = some (vI (sm (fun k => if M k nl = -1000 then 0 else M k nl) ns)) ∧ τ = σ) := by
    intro m
    induction m with
    | zero =>
      intro k ls l0 l1 l2 l3 hk
      refine Ev.lsub (ls' := [(0, vR 46), (1, vI c), (2, vI (sm (fun k => if M k nl = -1000 then 0 else M k nl) k)), (3, vI k)]) (by simp [l0, l1, l2, l3]) ?_
      refine ev_iload_n dX6_fear_4 rfl ?_
      refine ev_aload_n dX6_fear_5 rfl ?_
      refine ev_getr 0 dX6_fear_6 rfl rfl flX6_7 iwX6 (by decide) rfl ?_
      refine ev_iconst dX6_fear_9 ?_
      refine ev_iald dX6_fear_10 rfl (by omega) ?_
      refine ev_icmp_ge (tgt := 117) dX6_fear_11 (by decide) (by omega) (by omega) (fun c11 => ?_) (fun c11 => ?_)
      · refine ev_iload_n dX6_fear_117 rfl ?_
        refine ev_iret dX6_fear_118 rfl rfl ?_
        have e : k = ns := by omega
        subst e
        exact ⟨rfl, rfl⟩
      · exact absurd c11 (by omega)
    | succ m ih =>
      intro k ls l0 l1 l2 l3 hk
      refine Ev.lsub (ls' := [(0, vR 46), (1, vI c), (2, vI (sm (fun k => if M k nl = -1000 then 0 else M k nl) k)), (3, vI k)]) (by simp [l0, l1, l2, l3]) ?_
      have mb := hMb k nl (by omega)
      have nx : ∀ (v : Int), v = (if M k nl = -1000 then 0 else M k nl) → Ev b mX6_fear 109 [(0, vR 46), (1, vI c), (2, vI (sm (fun k => if M k nl = -1000 then 0 else M k nl) k)), (3, vI k), (4, vI (M k nl))] [vI v, vI (sm (fun k => if M k nl = -1000 then 0 else M k nl) k)] σ (fun r τ => r = some (vI (sm (fun k => if M k nl = -1000 then 0 else M k nl) ns)) ∧ τ = σ) := by
        intro v hv
        refine ev_iadd dX6_fear_109 ?_
        refine ev_istore_n dX6_fear_110 (by decide) rfl ?_
        refine ev_iinc dX6_fear_111 rfl (by decide) rfl ?_
        refine ev_goto (tgt := 4) dX6_fear_114 (by decide) ?_
        refine ih (k + 1) _ rfl rfl ?_ rfl (by omega)
        show some (vI _) = some (vI _)
        rw [sm, hv]
      refine ev_iload_n dX6_fear_4 rfl ?_
      refine ev_aload_n dX6_fear_5 rfl ?_
      refine ev_getr 0 dX6_fear_6 rfl rfl flX6_7 iwX6 (by decide) rfl ?_
      refine ev_iconst dX6_fear_9 ?_
      refine ev_iald dX6_fear_10 rfl (by omega) ?_
      refine ev_icmp_ge (tgt := 117) dX6_fear_11 (by decide) (by omega) (by omega) (fun c11 => ?_) (fun c11 => ?_)
      · exact absurd c11 (by omega)
      · refine ev_sipush dX6_fear_14 (by decide) ?_
        refine ev_istore dX6_fear_17 (by decide) rfl ?_
        refine ev_iconst dX6_fear_19 ?_
        refine ev_istore dX6_fear_20 (by decide) rfl ?_
        refine inner k _ (by omega) ?_ nl 0 _ rfl rfl rfl rfl ?_ rfl (by omega)
        · refine ev_iload_n dX6_fear_94 rfl ?_
          refine ev_iload dX6_fear_95 rfl ?_
          refine ev_sipush dX6_fear_97 (by decide) ?_
          refine ev_icmp_ne (tgt := 107) dX6_fear_100 (by decide) (by omega) (by omega) (fun c100 => ?_) (fun c100 => ?_)
          · refine ev_iload dX6_fear_107 rfl ?_
            exact nx _ (by rw [if_neg c100])
          · refine ev_iconst dX6_fear_103 ?_
            refine ev_goto (tgt := 109) dX6_fear_104 (by decide) ?_
            exact nx _ (by rw [if_pos c100])
        · show some (vI (-1000)) = some (vI (M k 0))
          rw [hMv]; rfl
  refine ev_iconst dX6_fear_0 ?_
  refine ev_istore_n dX6_fear_1 (by decide) rfl ?_
  refine ev_iconst dX6_fear_2 ?_
  refine ev_istore_n dX6_fear_3 (by decide) rfl ?_
  exact outer ns 0 _ rfl rfl rfl rfl (by omega)
theorem bt_or0 {s : Int} : Int32.ofInt s ||| Int32.ofInt 0 = Int32.ofInt s := by
  rw [show Int32.ofInt 0 = 0 from rfl]; simp
theorem stf_s2 {f : Int → Bool} {n : Nat} : stf f (n + 1) = stf f n + (if f n = true then pw n else 0) := rfl
theorem c_X6_thoseAt {b : ev_B} {σ : ev_M} {c : Int} (H : okP (wr (σ 47))) (hc : 0 ≤ c ∧ c < 48) : CF b mX6_thoseAt [vR 46, vI c] σ (some (vI (stf (fun l => decide (σ 47 (76 + 3 * l + 0) = c)) (σ 47 1).toNat))) σ := by
  refine ev_enter okX6_thoseAt.1 (Nat.le_of_ble_eq_true rfl) ?_
  have h0 := okr0 H
  obtain ⟨nl, hnl, hnl2⟩ := nn_ex h0.2.2.2.1
  rw [hnl2]
  generalize hf : (fun l => decide (σ 47 (76 + 3 * l + 0) = c)) = f
  have hfv : ∀ l, f l = decide (σ 47 (76 + 3 * l + 0) = c) := fun l => by rw [← hf]
  have loop : ∀ (m l : Nat), l + m = nl → Ev b mX6_thoseAt 4 [(0, vR 46), (1, vI c), (2, vI (stf f l)), (3, vI l)] [] σ (fun r τ => r = some (vI (stf f nl)) ∧ τ = σ) := by
    intro m
    induction m with
    | zero =>
      intro l hl
      refine ev_iload_n dX6_thoseAt_4 rfl ?_
      refine ev_aload_n dX6_thoseAt_5 rfl ?_
      refine ev_getr 0 dX6_thoseAt_6 rfl rfl flX6_7 iwX6 (by decide) rfl ?_
      refine ev_iconst dX6_thoseAt_9 ?_
      refine ev_iald dX6_thoseAt_10 rfl (by omega) ?_
      refine ev_icmp_ge (tgt := 40) dX6_thoseAt_11 (by decide) (by omega) (by omega) (fun c11 => ?_) (fun c11 => ?_)
      · refine ev_iload_n dX6_thoseAt_40 rfl ?_
        refine ev_iret dX6_thoseAt_41 rfl rfl ?_
        have e : l = nl := by omega
        subst e
        exact ⟨rfl, rfl⟩
      · exact absurd c11 (by omega)
    | succ m ih =>
      intro l hl
      have q := okrl H (l := l) (by omega)
      have sb := stf_bd f l
      have pb := pw_bd l (by omega)
      refine ev_iload_n dX6_thoseAt_4 rfl ?_
      refine ev_aload_n dX6_thoseAt_5 rfl ?_
      refine ev_getr 0 dX6_thoseAt_6 rfl rfl flX6_7 iwX6 (by decide) rfl ?_
      refine ev_iconst dX6_thoseAt_9 ?_
      refine ev_iald dX6_thoseAt_10 rfl (by omega) ?_
      refine ev_icmp_ge (tgt := 40) dX6_thoseAt_11 (by decide) (by omega) (by omega) (fun c11 => ?_) (fun c11 => ?_)
      · exact absurd c11 (by omega)
      · refine ev_iload_n dX6_thoseAt_14 rfl ?_
        refine ev_aload_n dX6_thoseAt_15 rfl ?_
        refine ev_iload_n dX6_thoseAt_16 rfl ?_
        refine ev_iconst dX6_thoseAt_17 ?_
        refine ev_V1 (c_X6_likes (by omega)) okX6_likes dX6_thoseAt_18 mlX6_70 rfl rfl ⟨by decide, by decide⟩ rfl (Nat.le_of_ble_eq_true rfl) ?_
        refine ev_iload_n dX6_thoseAt_21 rfl ?_
        refine ev_icmp_ne (tgt := 31) dX6_thoseAt_22 (by decide) (by omega) (by omega) (fun c22 => ?_) (fun c22 => ?_)
        · refine ev_iconst dX6_thoseAt_31 ?_
          refine ev_ior dX6_thoseAt_32 bt_or0 ?_
          refine ev_istore_n dX6_thoseAt_33 (by decide) rfl ?_
          refine ev_iinc dX6_thoseAt_34 rfl (by decide) rfl ?_
          refine ev_goto (tgt := 4) dX6_thoseAt_37 (by decide) ?_
          have e : stf f l = stf f (l + 1) := by rw [stf_s2, if_neg (by rw [hfv, decide_eq_true_eq]; exact c22)]; omega
          rw [e]
          exact ih (l + 1) (by omega)
        · refine ev_iconst dX6_thoseAt_25 ?_
          refine ev_iload_n dX6_thoseAt_26 rfl ?_
          refine ev_ishl dX6_thoseAt_27 (bt_shl (by omega)) ?_
          refine ev_goto (tgt := 32) dX6_thoseAt_28 (by decide) ?_
          refine ev_ior dX6_thoseAt_32 (bt_or (n := l) (by omega) (by omega)) ?_
          refine ev_istore_n dX6_thoseAt_33 (by decide) rfl ?_
          refine ev_iinc dX6_thoseAt_34 rfl (by decide) rfl ?_
          refine ev_goto (tgt := 4) dX6_thoseAt_37 (by decide) ?_
          have e : stf f l + pw l = stf f (l + 1) := by rw [stf_s2, if_pos (by rw [hfv, decide_eq_true_eq]; exact c22)]
          rw [e]
          exact ih (l + 1) (by omega)
  refine ev_iconst dX6_thoseAt_0 ?_
  refine ev_istore_n dX6_thoseAt_1 (by decide) rfl ?_
  refine ev_iconst dX6_thoseAt_2 ?_
  refine ev_istore_n dX6_thoseAt_3 (by decide) rfl ?_
  exact loop nl 0 (by omega)
theorem c_X6_likenessesOf {b : ev_B} {σ : ev_M} {k : Int} (H : okP (wr (σ 47))) (ha : σ 46 6 = 0) (hk : 0 ≤ k ∧ k < 6) : CF b mX6_likenessesOf [vR 46, vI k] σ (some (vI (sm (fun l => if σ 47 (76 + 3 * l + 1) = k then 1 else 0) (σ 47 1).toNat))) σ := by
  refine ev_enter okX6_likenessesOf.1 (Nat.le_of_ble_eq_true rfl) ?_
  have h0 := okr0 H
  obtain ⟨nl, hnl, hnl2⟩ := nn_ex h0.2.2.2.1
  rw [hnl2]
  generalize hf : (fun l => if σ 47 (76 + 3 * l + 1) = k then (1 : Int) else 0) = f
  have hfv : ∀ l, f l = if σ 47 (76 + 3 * l + 1) = k then (1 : Int) else 0 := fun l => by rw [← hf]
  have loop : ∀ (m l : Nat), l + m = nl → Ev b mX6_likenessesOf 4 [(0, vR 46), (1, vI k), (2, vI (sm f l)), (3, vI l)] [] σ (fun r τ => r = some (vI (sm f nl)) ∧ τ = σ) := by
    intro m
    induction m with
    | zero =>
      intro l hl
      refine ev_iload_n dX6_likenessesOf_4 rfl ?_
      refine ev_aload_n dX6_likenessesOf_5 rfl ?_
      refine ev_getr 0 dX6_likenessesOf_6 rfl rfl flX6_7 iwX6 (by decide) rfl ?_
      refine ev_iconst dX6_likenessesOf_9 ?_
      refine ev_iald dX6_likenessesOf_10 rfl (by omega) ?_
      refine ev_icmp_ge (tgt := 46) dX6_likenessesOf_11 (by decide) (by omega) (by omega) (fun c11 => ?_) (fun c11 => ?_)
      · refine ev_iload_n dX6_likenessesOf_46 rfl ?_
        refine ev_iret dX6_likenessesOf_47 rfl rfl ?_
        have e : l = nl := by omega
        subst e
        exact ⟨rfl, rfl⟩
      · exact absurd c11 (by omega)
    | succ m ih =>
      intro l hl
      have q := okrl H (l := l) (by omega)
      refine ev_iload_n dX6_likenessesOf_4 rfl ?_
      refine ev_aload_n dX6_likenessesOf_5 rfl ?_
      refine ev_getr 0 dX6_likenessesOf_6 rfl rfl flX6_7 iwX6 (by decide) rfl ?_
      refine ev_iconst dX6_likenessesOf_9 ?_
      refine ev_iald dX6_likenessesOf_10 rfl (by omega) ?_
      refine ev_icmp_ge (tgt := 46) dX6_likenessesOf_11 (by decide) (by omega) (by omega) (fun c11 => ?_) (fun c11 => ?_)
      · exact absurd c11 (by omega)
      · refine ev_iload_n dX6_likenessesOf_14 rfl ?_
        refine ev_aload_n dX6_likenessesOf_15 rfl ?_
        refine ev_iload_n dX6_likenessesOf_16 rfl ?_
        refine ev_iconst dX6_likenessesOf_17 ?_
        refine ev_V1 (c_X6_likes (by omega)) okX6_likes dX6_likenessesOf_18 mlX6_70 rfl rfl ⟨by decide, by decide⟩ rfl (Nat.le_of_ble_eq_true rfl) ?_
        refine ev_iload_n dX6_likenessesOf_21 rfl ?_
        refine ev_icmp_ne (tgt := 37) dX6_likenessesOf_22 (by decide) (by omega) (by omega) (fun c22 => ?_) (fun c22 => ?_)
        · refine ev_iconst dX6_likenessesOf_37 ?_
          refine ev_iadd dX6_likenessesOf_38 ?_
          refine ev_istore_n dX6_likenessesOf_39 (by decide) rfl ?_
          refine ev_iinc dX6_likenessesOf_40 rfl (by decide) rfl ?_
          refine ev_goto (tgt := 4) dX6_likenessesOf_43 (by decide) ?_
          have e : sm f l + 0 = sm f (l + 1) := by rw [sm, hfv l, if_neg c22]
          rw [e]
          exact ih (l + 1) (by omega)
        · refine ev_aload_n dX6_likenessesOf_25 rfl ?_
          refine ev_iload_n dX6_likenessesOf_26 rfl ?_
          refine ev_Vbeq (tgt := 37) (c_X6_isThere (by omega) (by omega)) okX6_isThere dX6_likenessesOf_27 mlX6_83 rfl rfl ⟨by decide, by decide⟩ rfl (Nat.le_of_ble_eq_true rfl) dX6_likenessesOf_30 (by decide) (fun c27 => ?_) (fun c27 => ?_)
          · exact absurd (show prA (σ 46 6) l = true by rw [ha, prA_0]; rfl) c27
          · refine ev_iconst dX6_likenessesOf_33 ?_
            refine ev_goto (tgt := 38) dX6_likenessesOf_34 (by decide) ?_
            refine ev_iadd dX6_likenessesOf_38 ?_
            refine ev_istore_n dX6_likenessesOf_39 (by decide) rfl ?_
            refine ev_iinc dX6_likenessesOf_40 rfl (by decide) rfl ?_
            refine ev_goto (tgt := 4) dX6_likenessesOf_43 (by decide) ?_
            have e : sm f l + 1 = sm f (l + 1) := by rw [sm, hfv l, if_pos c22]
            rw [e]
            exact ih (l + 1) (by omega)
  refine ev_iconst dX6_likenessesOf_0 ?_
  refine ev_istore_n dX6_likenessesOf_1 (by decide) rfl ?_
  refine ev_iconst dX6_likenessesOf_2 ?_
  refine ev_istore_n dX6_likenessesOf_3 (by decide) rfl ?_
  exact loop nl 0 (by omega)
theorem c_X6_areMet {b : ev_B} {σ : ev_M} {l o : Int} (H : okP (wr (σ 47))) (hl : 0 ≤ l ∧ l < σ 47 1) (ho : 0 ≤ o ∧ o < σ 47 1) : CF b mX6_areMet [vR 46, vI l, vI o] σ (some (vI (if σ 47 (76 + 3 * l + 1) = σ 47 (76 + 3 * o + 1) ∧ (σ 47 (76 + 3 * l + 0) / 8 = σ 47 (76 + 3 * o + 0) / 8 ∨ σ 47 (76 + 3 * l + 0) % 8 = σ 47 (76 + 3 * o + 0) % 8) then 1 else 0))) σ := by
  refine ev_enter okX6_areMet.1 (Nat.le_of_ble_eq_true rfl) ?_
  have h0 := okr0 H
  have h1 := okrl H hl
  have h2 := okrl H ho
  refine ev_aload_n dX6_areMet_0 rfl ?_
  refine ev_iload_n dX6_areMet_1 rfl ?_
  refine ev_iconst dX6_areMet_2 ?_
  refine ev_V1 (c_X6_likes (by omega)) okX6_likes dX6_areMet_3 mlX6_70 rfl rfl ⟨by decide, by decide⟩ rfl (Nat.le_of_ble_eq_true rfl) ?_
  refine ev_istore_n dX6_areMet_6 (by decide) rfl ?_
  refine ev_aload_n dX6_areMet_7 rfl ?_
  refine ev_iload_n dX6_areMet_8 rfl ?_
  refine ev_iconst dX6_areMet_9 ?_
  refine ev_V1 (c_X6_likes (by omega)) okX6_likes dX6_areMet_10 mlX6_70 rfl rfl ⟨by decide, by decide⟩ rfl (Nat.le_of_ble_eq_true rfl) ?_
  refine ev_istore dX6_areMet_13 (by decide) rfl ?_
  refine ev_aload_n dX6_areMet_15 rfl ?_
  refine ev_iload_n dX6_areMet_16 rfl ?_
  refine ev_iconst dX6_areMet_17 ?_
  refine ev_V1 (c_X6_likes (by omega)) okX6_likes dX6_areMet_18 mlX6_70 rfl rfl ⟨by decide, by decide⟩ rfl (Nat.le_of_ble_eq_true rfl) ?_
  refine ev_aload_n dX6_areMet_21 rfl ?_
  refine ev_iload_n dX6_areMet_22 rfl ?_
  refine ev_iconst dX6_areMet_23 ?_
  refine ev_V1 (c_X6_likes (by omega)) okX6_likes dX6_areMet_24 mlX6_70 rfl rfl ⟨by decide, by decide⟩ rfl (Nat.le_of_ble_eq_true rfl) ?_
  refine ev_icmp_ne (tgt := 58) dX6_areMet_27 (by decide) (by omega) (by omega) (fun c27 => ?_) (fun c27 => ?_)
  · refine ev_iconst dX6_areMet_58 ?_
    refine ev_iret dX6_areMet_59 rfl (by first | rfl | exact ev_nb) ?_
    exact ⟨by first | rw [if_pos (by omega)] | rw [if_neg (by omega)], rfl⟩
  · refine ev_iload_n dX6_areMet_30 rfl ?_
    refine ev_bipush dX6_areMet_31 (by decide) ?_
    refine ev_idiv dX6_areMet_33 (by omega) (by omega) ?_
    refine ev_iload dX6_areMet_34 rfl ?_
    refine ev_bipush dX6_areMet_36 (by decide) ?_
    refine ev_idiv dX6_areMet_38 (by omega) (by omega) ?_
    refine ev_icmp_eq (tgt := 54) dX6_areMet_39 (by decide) (by omega) (by omega) (fun c39 => ?_) (fun c39 => ?_)
    · refine ev_iconst dX6_areMet_54 ?_
      refine ev_goto (tgt := 59) dX6_areMet_55 (by decide) ?_
      refine ev_iret dX6_areMet_59 rfl (by first | rfl | exact ev_nb) ?_
      exact ⟨by first | rw [if_pos (by omega)] | rw [if_neg (by omega)], rfl⟩
    · refine ev_iload_n dX6_areMet_42 rfl ?_
      refine ev_bipush dX6_areMet_43 (by decide) ?_
      refine ev_irem dX6_areMet_45 (by omega) (by omega) ?_
      refine ev_iload dX6_areMet_46 rfl ?_
      refine ev_bipush dX6_areMet_48 (by decide) ?_
      refine ev_irem dX6_areMet_50 (by omega) (by omega) ?_
      refine ev_icmp_ne (tgt := 58) dX6_areMet_51 (by decide) (by omega) (by omega) (fun c51 => ?_) (fun c51 => ?_)
      · refine ev_iconst dX6_areMet_58 ?_
        refine ev_iret dX6_areMet_59 rfl (by first | rfl | exact ev_nb) ?_
        exact ⟨by first | rw [if_pos (by omega)] | rw [if_neg (by omega)], rfl⟩
      · refine ev_iconst dX6_areMet_54 ?_
        refine ev_goto (tgt := 59) dX6_areMet_55 (by decide) ?_
        refine ev_iret dX6_areMet_59 rfl (by first | rfl | exact ev_nb) ?_
        exact ⟨by first | rw [if_pos (by omega)] | rw [if_neg (by omega)], rfl⟩
theorem c_X6_meets {b : ev_B} {σ : ev_M} {k : Int} (H : okP (wr (σ 47))) (ha : 0 ≤ σ 46 6 ∧ σ 46 6 < 256) (hk : 0 ≤ k ∧ k < 6) : CF b mX6_meets [vR 46, vI k] σ (some (vI (mts (wr (σ 47)) (prA (σ 46 6)) k (σ 47 1).toNat))) σ := by
  refine ev_enter okX6_meets.1 (Nat.le_of_ble_eq_true rfl) ?_
  have h0 := okr0 H
  obtain ⟨nl, hnl, hnl2⟩ := nn_ex h0.2.2.2.1
  rw [hnl2]
  unfold mts
  generalize hg : (fun l o => mpr (wr (σ 47)) (prA (σ 46 6)) k l o) = g
  have hgv : ∀ l o, mpr (wr (σ 47)) (prA (σ 46 6)) k l o = g l o := fun l o => by rw [← hg]
  simp only [hgv]
  have gv : ∀ l o, g l o = if σ 47 (76 + 3 * l + 1) = k ∧ σ 47 (76 + 3 * o + 1) = k ∧ (σ 47 (76 + 3 * l + 0) / 8 = σ 47 (76 + 3 * o + 0) / 8 ∨ σ 47 (76 + 3 * l + 0) % 8 = σ 47 (76 + 3 * o + 0) % 8) ∧ prA (σ 46 6) l = true ∧ prA (σ 46 6) o = true then 1 else 0 := fun l o => by rw [← hg]; rfl
  have inner : ∀ (l : Nat) (S : Int), l < nl → Ev b mX6_meets 74 [(0, vR 46), (1, vI k), (2, vI (S + sm (fun o => g l o) l)), (3, vI l)] [] σ (fun r τ => r = some (vI (sm (fun l => sm (fun o => g l o) l.toNat) nl)) ∧ τ = σ) → ∀ (m o : Nat), o + m = l → Ev b mX6_meets 17 [(0, vR 46), (1, vI k), (2, vI (S + sm (fun o => g l o) o)), (3, vI l), (4, vI o)] [] σ (fun r τ => r = some (vI (sm (fun l => sm (fun o => g l o) l.toNat) nl)) ∧ τ = σ) := by
    intro l S hl K m
    induction m with
    | zero =>
      intro o ho
      refine ev_iload dX6_meets_17 rfl ?_
      refine ev_iload_n dX6_meets_19 rfl ?_
      refine ev_icmp_ge (tgt := 74) dX6_meets_20 (by decide) (by omega) (by omega) (fun c20 => ?_) (fun c20 => ?_)
      · have e : o = l := by omega
        subst e
        exact Ev.lsub (by simp [ev_lk]) K
      · exact absurd c20 (by omega)
    | succ m ih =>
      intro o ho
      have q := okrl H (l := l) (by omega)
      have q2 := okrl H (l := o) (by omega)
      have nx : ∀ v : Int, v = g l o → Ev b mX6_meets 66 [(0, vR 46), (1, vI k), (2, vI (S + sm (fun o => g l o) o)), (3, vI l), (4, vI o)] [vI v, vI (S + sm (fun o => g l o) o)] σ (fun r τ => r = some (vI (sm (fun l => sm (fun o => g l o) l.toNat) nl)) ∧ τ = σ) := by
        intro v hv
        refine ev_iadd dX6_meets_66 ?_
        refine ev_istore_n dX6_meets_67 (by decide) rfl ?_
        refine ev_iinc dX6_meets_68 rfl (by decide) rfl ?_
        refine ev_goto (tgt := 17) dX6_meets_71 (by decide) ?_
        have e : S + sm (fun o => g l o) o + v = S + sm (fun o => g l o) (o + 1) := by rw [sm, hv]; omega
        rw [e]
        exact ih (o + 1) (by omega)
      refine ev_iload dX6_meets_17 rfl ?_
      refine ev_iload_n dX6_meets_19 rfl ?_
      refine ev_icmp_ge (tgt := 74) dX6_meets_20 (by decide) (by omega) (by omega) (fun c20 => ?_) (fun c20 => ?_)
      · exact absurd c20 (by omega)
      · refine ev_iload_n dX6_meets_23 rfl ?_
        refine ev_aload_n dX6_meets_24 rfl ?_
        refine ev_iload_n dX6_meets_25 rfl ?_
        refine ev_iconst dX6_meets_26 ?_
        refine ev_V1 (c_X6_likes (by omega)) okX6_likes dX6_meets_27 mlX6_70 rfl rfl ⟨by decide, by decide⟩ rfl (Nat.le_of_ble_eq_true rfl) ?_
        refine ev_iload_n dX6_meets_30 rfl ?_
        refine ev_icmp_ne (tgt := 65) dX6_meets_31 (by decide) (by omega) (by omega) (fun c31 => ?_) (fun c31 => ?_)
        · refine ev_iconst dX6_meets_65 ?_
          exact nx 0 (by rw [gv, if_neg (fun z => c31 z.1)])
        · refine ev_aload_n dX6_meets_34 rfl ?_
          refine ev_iload_n dX6_meets_35 rfl ?_
          refine ev_iload dX6_meets_36 rfl ?_
          refine ev_Vbeq (tgt := 65) (c_X6_areMet H (by omega) (by omega)) okX6_areMet dX6_meets_38 mlX6_121 rfl rfl ⟨by decide, by decide⟩ rfl (Nat.le_of_ble_eq_true rfl) dX6_meets_41 (by decide) (fun c38 => ?_) (fun c38 => ?_)
          · refine ev_iconst dX6_meets_65 ?_
            exact nx 0 (by rw [gv, if_neg (fun z => c38 ⟨by omega, z.2.2.1⟩)])
          · refine ev_aload_n dX6_meets_44 rfl ?_
            refine ev_iload_n dX6_meets_45 rfl ?_
            refine ev_Vbeq (tgt := 65) (c_X6_isThere (by omega) (by omega)) okX6_isThere dX6_meets_46 mlX6_83 rfl rfl ⟨by decide, by decide⟩ rfl (Nat.le_of_ble_eq_true rfl) dX6_meets_49 (by decide) (fun c46 => ?_) (fun c46 => ?_)
            · refine ev_iconst dX6_meets_65 ?_
              exact nx 0 (by rw [gv, if_neg (fun z => c46 z.2.2.2.1)])
            · refine ev_aload_n dX6_meets_52 rfl ?_
              refine ev_iload dX6_meets_53 rfl ?_
              refine ev_Vbeq (tgt := 65) (c_X6_isThere (by omega) (by omega)) okX6_isThere dX6_meets_55 mlX6_83 rfl rfl ⟨by decide, by decide⟩ rfl (Nat.le_of_ble_eq_true rfl) dX6_meets_58 (by decide) (fun c55 => ?_) (fun c55 => ?_)
              · refine ev_iconst dX6_meets_65 ?_
                exact nx 0 (by rw [gv, if_neg (fun z => c55 z.2.2.2.2)])
              · refine ev_iconst dX6_meets_61 ?_
                refine ev_goto (tgt := 66) dX6_meets_62 (by decide) ?_
                exact nx 1 (by rw [gv, if_pos ⟨c31, by omega, c38.2, c46, c55⟩])
  have outer : ∀ (m l : Nat), l + m = nl → Ev b mX6_meets 4 [(0, vR 46), (1, vI k), (2, vI (sm (fun l => sm (fun o => g l o) l.toNat) l)), (3, vI l)] [] σ (fun r τ => r = some (vI (sm (fun l => sm (fun o => g l o) l.toNat) nl)) ∧ τ = σ) := by
    intro m
    induction m with
    | zero =>
      intro l hl
      refine ev_iload_n dX6_meets_4 rfl ?_
      refine ev_aload_n dX6_meets_5 rfl ?_
      refine ev_getr 0 dX6_meets_6 rfl rfl flX6_7 iwX6 (by decide) rfl ?_
      refine ev_iconst dX6_meets_9 ?_
      refine ev_iald dX6_meets_10 rfl (by omega) ?_
      refine ev_icmp_ge (tgt := 80) dX6_meets_11 (by decide) (by omega) (by omega) (fun c11 => ?_) (fun c11 => ?_)
      · refine ev_iload_n dX6_meets_80 rfl ?_
        refine ev_iret dX6_meets_81 rfl rfl ?_
        have e : l = nl := by omega
        subst e
        exact ⟨rfl, rfl⟩
      · exact absurd c11 (by omega)
    | succ m ih =>
      intro l hl
      refine ev_iload_n dX6_meets_4 rfl ?_
      refine ev_aload_n dX6_meets_5 rfl ?_
      refine ev_getr 0 dX6_meets_6 rfl rfl flX6_7 iwX6 (by decide) rfl ?_
      refine ev_iconst dX6_meets_9 ?_
      refine ev_iald dX6_meets_10 rfl (by omega) ?_
      refine ev_icmp_ge (tgt := 80) dX6_meets_11 (by decide) (by omega) (by omega) (fun c11 => ?_) (fun c11 => ?_)
      · exact absurd c11 (by omega)
      · refine ev_iconst dX6_meets_14 ?_
        refine ev_istore dX6_meets_15 (by decide) rfl ?_
        have i := inner l (sm (fun l => sm (fun o => g l o) l.toNat) l) (by omega) (by
          refine ev_iinc dX6_meets_74 rfl (by decide) rfl ?_
          refine ev_goto (tgt := 4) dX6_meets_77 (by decide) ?_
          have e : sm (fun l => sm (fun o => g l o) l.toNat) l + sm (fun o => g l o) l = sm (fun l => sm (fun o => g l o) l.toNat) (l + 1) := by
            rw [sm, show ((l : Nat) : Int).toNat = l by omega]
          rw [e]
          exact ih (l + 1) (by omega)) l 0 (by omega)
        rw [sm, Int.add_zero] at i
        exact i
  refine ev_iconst dX6_meets_0 ?_
  refine ev_istore_n dX6_meets_1 (by decide) rfl ?_
  refine ev_iconst dX6_meets_2 ?_
  refine ev_istore_n dX6_meets_3 (by decide) rfl ?_
  exact outer nl 0 (by omega)
