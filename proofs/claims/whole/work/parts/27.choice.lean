/-! choices -/
/-- the first of those below n with the least e -/
def amn (e : Int → Int) : Nat → Int
  | 0 => 0
  | n + 1 => if n = 0 ∨ e n < e (amn e n) then (n : Int) else amn e n
theorem amn_bd (e : Int → Int) : ∀ n : Nat, 0 ≤ amn e n ∧ (amn e n < n ∨ n = 0)
  | 0 => ⟨Int.le_refl _, Or.inr rfl⟩
  | n + 1 => by
    have := amn_bd e n
    unfold amn
    split <;> omega
theorem amn_s {e : Int → Int} {n : Nat} (hn : n ≠ 0) : amn e (n + 1) = if e n < e (amn e n) then (n : Int) else amn e n := by
  show (if n = 0 ∨ e n < e (amn e n) then (n : Int) else amn e n) = _
  by_cases h : e n < e (amn e n)
  · rw [if_pos (Or.inr h), if_pos h]
  · rw [if_neg (by rintro (q | q) <;> contradiction), if_neg h]
theorem amn_le {e : Int → Int} : ∀ {n i : Nat}, i < n → e (amn e n) ≤ e i
  | 0, i, h => absurd h (Nat.not_lt_zero _)
  | n + 1, i, h => by
    by_cases hn : n = 0
    · subst hn
      have : i = 0 := by omega
      subst this
      exact Int.le_refl _
    · rw [amn_s hn]
      rcases Nat.lt_or_ge i n with q | q
      · have := amn_le (e := e) q
        split <;> omega
      · have : i = n := by omega
        subst this
        split <;> omega
theorem amn_congr {e e' : Int → Int} : ∀ {n : Nat}, (∀ i : Nat, i < n → e i = e' i) → amn e n = amn e' n
  | 0, _ => rfl
  | n + 1, h => by
    have ih := amn_congr (n := n) (fun i hi => h i (by omega))
    by_cases hn : n = 0
    · subst hn; rfl
    · have hb := amn_bd e' n
      have hq := h (amn e' n).toNat (by omega)
      rw [show (((amn e' n).toNat : Nat) : Int) = amn e' n by omega] at hq
      rw [amn_s hn, amn_s hn, ih, h n (by omega), hq]
/-- from some place on nothing is less than nothing -/
theorem amn_stop {e : Int → Int} {k : Nat} (hk : k ≠ 0) : ∀ {m : Nat}, (∀ i : Nat, i < k + m → 0 ≤ e i) → e (amn e k) ≤ 0 → amn e (k + m) = amn e k
  | 0, _, _ => rfl
  | m + 1, h, h0 => by
    have ih := amn_stop (e := e) hk (m := m) (fun i hi => h i (by omega)) h0
    rw [← Nat.add_assoc, amn_s (by omega), ih, if_neg]
    have := h (k + m) (by omega)
    omega
theorem wn_mup {τ : ev_M} {p j : Nat} {i v : Int} (hj : j < 9) : wn (mup τ (p + j) i v) p = mup (wn τ p) j i v := by
  funext k x
  simp only [wn, mup]
  by_cases hk : k < 9
  · rw [if_pos hk, if_pos hk]
    by_cases h : k = j ∧ x = i
    · rw [if_pos h, if_pos (by omega)]
    · rw [if_neg h, if_neg (by omega)]
  · rw [if_neg hk, if_neg hk, if_neg (by omega)]
theorem eqP_mup {P P' : ev_M} {j : Nat} {i v : Int} (h : eqP P P') (hj : 1 ≤ j) : eqP (mup P j i v) (mup P' j i v) := by
  obtain ⟨g1, g2, g3, g4, g5, g6, g7⟩ := h
  have z : ∀ (Q : ev_M) x, mup Q j i v 0 x = Q 0 x := fun Q x => mr1 (by omega)
  have st : ∀ a x, P a x = P' a x → mup P j i v a x = mup P' j i v a x := fun a x h => by unfold mup; rw [h]
  refine ⟨by rw [z, z]; exact g1, by rw [z, z]; exact g2, by rw [z, z]; exact g3, by rw [z, z]; exact g4, fun c hc => st _ _ (g5 c hc), fun k hk => ?_, fun l hl => ?_⟩
  · rw [z] at hk
    obtain ⟨a, b, c, d⟩ := g6 k hk
    exact ⟨st _ _ a, st _ _ b, st _ _ c, st _ _ d⟩
  · rw [z] at hl
    obtain ⟨a, b, c⟩ := g7 l hl
    exact ⟨st _ _ a, st _ _ b, st _ _ c⟩
theorem c_X5_bestChoice {b : ev_B} {σ : ev_M} {j nr : Nat} {i : Int} {N n : Nat} (H : okP (wn σ 1)) (hj : 1 ≤ j ∧ j < 9) (hr : ev_kds[19 + j]? = some (.inr (0, nr))) (hi : 0 ≤ i ∧ i < nr) (hN : N ≤ 48) (hn : n ≤ 20) (hv : ∀ v : Int, 0 ≤ v ∧ v < N → okP (mup (wn σ 1) j i v)) : Cl b mX5_bestChoice [vR 0, vR (19 + j), vI i, vI N, vI n] σ (fun r τ => r = some (vI (amn (fun v => eatN (mup (wn σ 1) j i v) allp n) N)) ∧ sameC σ τ) := by
  refine ev_enter okX5_bestChoice.1 (Nat.le_of_ble_eq_true rfl) ?_
  generalize he : (fun v => eatN (mup (wn σ 1) j i v) allp n) = e
  have heb : ∀ v : Int, 0 ≤ v ∧ v < N → 0 ≤ e v ∧ e v ≤ 800 := by
    intro v hv2
    have := eatN_bd (pr := allp) (hv v hv2) n
    rw [← he]
    simp only []
    omega
  have loop : ∀ (m k : Nat) (τ : ev_M) (le : Int) (ls : List (Nat × ev_V)), ev_lk ls 0 = some (vR 0) → ev_lk ls 1 = some (vR (19 + j)) → ev_lk ls 2 = some (vI i) → ev_lk ls 3 = some (vI N) → ev_lk ls 4 = some (vI n) → ev_lk ls 5 = some (vI (amn e k)) → ev_lk ls 6 = some (vI le) → ev_lk ls 7 = some (vI k) → k + m = N → ((k = 0 ∧ le = 1000000) ∨ (k ≠ 0 ∧ le = e (amn e k))) → sameC σ τ → Ev b mX5_bestChoice 10 ls [] τ (fun r τ => r = some (vI (amn e N)) ∧ sameC σ τ) := by
    intro m
    induction m with
    | zero =>
      intro k τ le ls l0 l1 l2 l3 l4 l5 l6 l7 h hl sc
      refine Ev.lsub (ls' := [(0, vR 0), (1, vR (19 + j)), (2, vI i), (3, vI N), (4, vI n), (5, vI (amn e k)), (6, vI le), (7, vI k)]) (by simp [l0, l1, l2, l3, l4, l5, l6, l7]) ?_
      refine ev_iload dX5_bestChoice_10 rfl ?_
      refine ev_iload_n dX5_bestChoice_12 rfl ?_
      refine ev_icmp_ge (tgt := 75) dX5_bestChoice_13 (by decide) (by omega) (by omega) (fun c13 => ?_) (fun c13 => ?_)
      · refine ev_iload dX5_bestChoice_75 rfl ?_
        refine ev_iret dX5_bestChoice_77 rfl rfl ?_
        have ek : k = N := by omega
        subst ek
        exact ⟨rfl, sc⟩
      · exact absurd c13 (by omega)
    | succ m ih =>
      intro k τ le ls l0 l1 l2 l3 l4 l5 l6 l7 h hl sc
      refine Ev.lsub (ls' := [(0, vR 0), (1, vR (19 + j)), (2, vI i), (3, vI N), (4, vI n), (5, vI (amn e k)), (6, vI le), (7, vI k)]) (by simp [l0, l1, l2, l3, l4, l5, l6, l7]) ?_
      have ab := amn_bd e k
      have leb : 0 ≤ le ∧ le ≤ 1000000 := by
        rcases hl with ⟨_, q⟩ | ⟨q0, q⟩
        · omega
        · have := heb (amn e k) (by omega)
          omega
      have ekb := heb k (by omega)
      refine ev_iload dX5_bestChoice_10 rfl ?_
      refine ev_iload_n dX5_bestChoice_12 rfl ?_
      refine ev_icmp_ge (tgt := 75) dX5_bestChoice_13 (by decide) (by omega) (by omega) (fun c13 => ?_) (fun c13 => ?_)
      · exact absurd c13 (by omega)
      · refine ev_iload dX5_bestChoice_16 rfl ?_
        refine ev_if_le (tgt := 75) dX5_bestChoice_18 (by decide) (by omega) (fun c18 => ?_) (fun c18 => ?_)
        · rcases hl with ⟨_, q⟩ | ⟨q0, q⟩
          · exact absurd q (by omega)
          · refine ev_iload dX5_bestChoice_75 rfl ?_
            refine ev_iret dX5_bestChoice_77 rfl rfl ?_
            refine ⟨?_, sc⟩
            have es := amn_stop (e := e) q0 (m := m + 1) (fun x hx => (heb x (by omega)).1) (by omega)
            rw [show k + (m + 1) = N by omega] at es
            rw [es]
        · have Hh : okP (wn τ 1) := by rw [wn_congr (fun x hx => sc (1 + x) (by omega))]; exact H
          refine ev_aload_n dX5_bestChoice_21 rfl ?_
          refine ev_getr 2 dX5_bestChoice_22 rfl rfl flX5_19 iwX5 (by decide) rfl ?_
          refine ev_aload_n dX5_bestChoice_25 rfl ?_
          refine ev_getr 0 dX5_bestChoice_26 rfl rfl flX5_10 iwX5 (by decide) rfl ?_
          refine ev_callV (c_X2_become hP19 hP1 (by decide) Hh) okX2_become dX5_bestChoice_29 mlX5_174 rfl rfl ⟨by decide, by decide⟩ rfl (Nat.le_of_ble_eq_true rfl) (fun r29 τ29 h29 => ?_)
          obtain ⟨rfl, g1, g2⟩ := h29
          rw [wn_congr (fun x hx => sc (1 + x) (by omega))] at g1
          have g3 : eqP (wn (mup τ29 (19 + j) i k) 19) (mup (wn σ 1) j i k) := by
            rw [wn_mup hj.2]
            exact eqP_mup g1 hj.1
          have Hk := hv k (by omega)
          have H2 := eqP_ok g3 Hk
          refine ev_aload_n dX5_bestChoice_32 rfl ?_
          refine ev_iload_n dX5_bestChoice_33 rfl ?_
          refine ev_iload dX5_bestChoice_34 rfl ?_
          refine ev_iast dX5_bestChoice_36 hr (by omega) ?_
          refine ev_aload_n dX5_bestChoice_37 rfl ?_
          refine ev_getr 3 dX5_bestChoice_38 rfl rfl flX5_25 iwX5 (by decide) rfl ?_
          refine ev_aload_n dX5_bestChoice_41 rfl ?_
          refine ev_getr 2 dX5_bestChoice_42 rfl rfl flX5_19 iwX5 (by decide) rfl ?_
          refine ev_iload dX5_bestChoice_45 rfl ?_
          refine ev_iload dX5_bestChoice_47 rfl ?_
          refine ev_callV (c_X0_passDays (n := n) hP19 H2 (by omega) (by omega)) okX0_passDays dX5_bestChoice_49 mlX5_154 rfl rfl ⟨by decide, by decide⟩ rfl (Nat.le_of_ble_eq_true rfl) (fun r49 τ49 h49 => ?_)
          obtain ⟨d, hd, rfl, f1, f2, f3⟩ := h49
          have ed : eatN (wn (mup τ29 (19 + j) i k) 19) allp d = eatN (mup (wn σ 1) j i k) allp d := eqP_eat g3 Hk d
          have eN : eatN (mup (wn σ 1) j i k) allp n = e k := by rw [← he]
          have mono := eatN_mono (pr := allp) Hk (m := d) (n - d)
          rw [show d + (n - d) = n by omega, eN] at mono
          have db := eatN_bd (pr := allp) Hk d
          have sc2 : sameC σ τ49 := by
            intro a ha
            rw [f3 a (by omega) (by omega), fr1 (by omega), g2 a (by omega)]
            exact sc a ha
          refine ev_istore dX5_bestChoice_52 (by decide) rfl ?_
          rw [ed]
          rw [ed] at f2
          refine ev_iload dX5_bestChoice_54 rfl ?_
          refine ev_iload dX5_bestChoice_56 rfl ?_
          refine ev_icmp_ge (tgt := 69) dX5_bestChoice_58 (by decide) (by omega) (by omega) (fun c58 => ?_) (fun c58 => ?_)
          · have hge : ¬ (k = 0 ∨ e k < e (amn e k)) := by
              rcases hl with ⟨q0, q⟩ | ⟨q0, q⟩
              · omega
              · omega
            refine ev_iinc dX5_bestChoice_69 rfl (by decide) rfl ?_
            refine ev_goto (tgt := 10) dX5_bestChoice_72 (by decide) ?_
            have ea : amn e (k + 1) = amn e k := by
              show (if k = 0 ∨ e k < e (amn e k) then (k : Int) else amn e k) = _
              rw [if_neg hge]
            refine ih (k + 1) τ49 le _ rfl rfl rfl rfl rfl (by rw [ea]; rfl) rfl rfl (by omega) (Or.inr ⟨by omega, ?_⟩) sc2
            rw [ea]
            rcases hl with ⟨q0, q⟩ | ⟨q0, q⟩
            · omega
            · exact q
          · have edn : eatN (mup (wn σ 1) j i k) allp d = e k := by
              rcases f2 with q | q
              · rw [q, eN]
              · exact absurd q (by omega)
            have hlt : k = 0 ∨ e k < e (amn e k) := by
              rcases hl with ⟨q0, q⟩ | ⟨q0, q⟩
              · exact Or.inl q0
              · exact Or.inr (by omega)
            have ea : amn e (k + 1) = k := by
              show (if k = 0 ∨ e k < e (amn e k) then (k : Int) else amn e k) = _
              rw [if_pos hlt]
            refine ev_iload dX5_bestChoice_61 rfl ?_
            refine ev_istore dX5_bestChoice_63 (by decide) rfl ?_
            refine ev_iload dX5_bestChoice_65 rfl ?_
            refine ev_istore dX5_bestChoice_67 (by decide) rfl ?_
            refine ev_iinc dX5_bestChoice_69 rfl (by decide) rfl ?_
            refine ev_goto (tgt := 10) dX5_bestChoice_72 (by decide) ?_
            refine ih (k + 1) τ49 _ _ rfl rfl rfl rfl rfl (by rw [ea]; rfl) rfl rfl (by omega) (Or.inr ⟨by omega, ?_⟩) sc2
            rw [ea, edn]
  refine ev_iconst dX5_bestChoice_0 ?_
  refine ev_istore dX5_bestChoice_1 (by decide) rfl ?_
  refine ev_ldc (z := 1000000) dX5_bestChoice_3 kcX5_153 (by decide) ?_
  refine ev_istore dX5_bestChoice_5 (by decide) rfl ?_
  refine ev_iconst dX5_bestChoice_7 ?_
  refine ev_istore dX5_bestChoice_8 (by decide) rfl ?_
  exact loop N 0 σ 1000000 _ rfl rfl rfl rfl rfl rfl rfl rfl (by omega) (Or.inl ⟨rfl, rfl⟩) sameC_rf
/-! a plain with one number changed -/
theorem okP_mup6 {P : ev_M} {l v : Int} (H : okP P) (hv : 0 ≤ v ∧ v < 48) : okP (mup P 6 l v) := by
  obtain ⟨h1, h2, h3, h4, h5, h6, h7⟩ := H
  refine ⟨h1, h2, h3, h4, h5, h6, fun x hx => ?_⟩
  have q := h7 x hx
  refine ⟨?_, q.2⟩
  unfold mup
  split <;> omega
theorem okP_mup7 {P : ev_M} {l v : Int} (H : okP P) (hv : 0 ≤ v ∧ v < P 0 3) : okP (mup P 7 l v) := by
  obtain ⟨h1, h2, h3, h4, h5, h6, h7⟩ := H
  refine ⟨h1, h2, h3, h4, h5, h6, fun x hx => ?_⟩
  have q := h7 x hx
  refine ⟨q.1, ?_, q.2.2⟩
  show 0 ≤ mup P 7 l v 7 x ∧ mup P 7 l v 7 x < P 0 3
  unfold mup
  split <;> omega
theorem okP_mup8 {P : ev_M} {l v : Int} (H : okP P) (hv : 0 ≤ v ∧ v ≤ 9999) : okP (mup P 8 l v) := by
  obtain ⟨h1, h2, h3, h4, h5, h6, h7⟩ := H
  refine ⟨h1, h2, h3, h4, h5, h6, fun x hx => ?_⟩
  have q := h7 x hx
  refine ⟨q.1, q.2.1, ?_⟩
  unfold mup
  split <;> omega
theorem okP_mup2 {P : ev_M} {l v : Int} (H : okP P) (hv : 0 ≤ v ∧ v ≤ 5) : okP (mup P 2 l v) := by
  obtain ⟨h1, h2, h3, h4, h5, h6, h7⟩ := H
  refine ⟨h1, h2, h3, h4, h5, fun x hx => ?_, h7⟩
  have q := h6 x hx
  refine ⟨?_, q.2⟩
  unfold mup
  split <;> omega
theorem okP_mup3 {P : ev_M} {l v : Int} (H : okP P) (hv : 0 ≤ v ∧ v ≤ 30) : okP (mup P 3 l v) := by
  obtain ⟨h1, h2, h3, h4, h5, h6, h7⟩ := H
  refine ⟨h1, h2, h3, h4, h5, fun x hx => ?_, h7⟩
  have q := h6 x hx
  refine ⟨q.1, ?_, q.2.2⟩
  unfold mup
  split <;> omega
def sc_spot (σ : ev_M) (l n : Int) : Int × ev_M := if (0 ≤ l ∧ l ≤ σ 1 8 - 1) ∧ 1 ≤ n ∧ n ≤ 20 then (amn (fun v => eatN (mup (wn σ 1) 6 l v) allp n.toNat) 48, σ) else (-1000000001, fnd σ 0)
def sc_whose (σ : ev_M) (l n : Int) : Int × ev_M := if (0 ≤ l ∧ l ≤ σ 1 8 - 1) ∧ 1 ≤ n ∧ n ≤ 20 then (amn (fun v => eatN (mup (wn σ 1) 7 l v) allp n.toNat) (σ 1 3).toNat, σ) else (-1000000001, fnd σ 0)
def sc_kind (σ : ev_M) (s n : Int) : Int × ev_M := if (0 ≤ s ∧ s ≤ σ 1 3 - 1) ∧ 1 ≤ n ∧ n ≤ 20 then (amn (fun v => eatN (mup (wn σ 1) 2 s v) allp n.toNat) 6, σ) else (-1000000001, fnd σ 0)
def sc_temper (σ : ev_M) (s n : Int) : Int × ev_M := if (0 ≤ s ∧ s ≤ σ 1 3 - 1) ∧ 1 ≤ n ∧ n ≤ 20 then (amn (fun v => eatN (mup (wn σ 1) 3 s v) allp n.toNat) 31, σ) else (-1000000001, fnd σ 0)
theorem c_X5_spot {b : ev_B} {σ : ev_M} {l n : Int} (H : okP (wn σ 1)) (h1 : (-2147483648 ≤ l ∧ l < 2147483648)) (h2 : (-2147483648 ≤ n ∧ n < 2147483648)) : Cl b mX5_spot [vR 0, vI l, vI n] σ (fun r τ => r = some (vI (sc_spot σ l n).1) ∧ sameC (sc_spot σ l n).2 τ) := by
  refine ev_enter okX5_spot.1 (Nat.le_of_ble_eq_true rfl) ?_
  unfold sc_spot
  have h0 := ok0 H
  obtain ⟨ns, hns, hns2⟩ := nn_ex h0.2.2.1.1
  refine ev_aload_n dX5_spot_0 rfl ?_
  refine ev_iload_n dX5_spot_1 rfl ?_
  refine ev_Vbeq (tgt := 18) (c_X5_isLikeness (by omega) (by omega)) okX5_isLikeness dX5_spot_2 mlX5_128 rfl rfl ⟨by decide, by decide⟩ rfl (Nat.le_of_ble_eq_true rfl) dX5_spot_5 (by decide) (fun c2 => ?_) (fun c2 => ?_)
  · rw [if_neg (by omega)]
    refine ev_aload_n dX5_spot_18 rfl ?_
    refine ev_iconst dX5_spot_19 ?_
    refine ev_V1 (c_X5_finding (by omega)) okX5_finding dX5_spot_20 mlX5_55 rfl rfl ⟨by decide, by decide⟩ rfl (Nat.le_of_ble_eq_true rfl) ?_
    refine ev_iret dX5_spot_23 rfl rfl ?_
    exact ⟨rfl, sameC_rf⟩
  · refine ev_iload_n dX5_spot_8 rfl ?_
    refine ev_iconst dX5_spot_9 ?_
    refine ev_bipush dX5_spot_10 (by decide) ?_
    refine ev_Sbne (tgt := 24) (c_X5_isWithin (by omega) (by omega) (by omega)) okX5_isWithin dX5_spot_12 mlX5_51 ⟨by decide, by decide⟩ rfl (Nat.le_of_ble_eq_true rfl) dX5_spot_15 (by decide) (fun c12 => ?_) (fun c12 => ?_)
    · rw [if_pos (by omega)]
      obtain ⟨m, hm, hm2⟩ := nn_ex (x := n) (by omega)
      subst hm
      rw [hm2]
      refine ev_aload_n dX5_spot_24 rfl ?_
      refine ev_aload_n dX5_spot_25 rfl ?_
      refine ev_getr 2 dX5_spot_26 rfl rfl flX5_19 iwX5 (by decide) rfl ?_
      refine ev_getr 9 dX5_spot_29 rfl rfl flX5_131 iwX2 (by decide) rfl ?_
      refine ev_iload_n dX5_spot_32 rfl ?_
      refine ev_bipush dX5_spot_33 (by decide) ?_
      refine ev_iload_n dX5_spot_35 rfl ?_
      refine ev_callV (c_X5_bestChoice (j := 6) (nr := 8) (N := 48) (n := m) H (by decide) rfl (by omega) (by omega) (by omega) (fun v hv => okP_mup6 H (by omega))) okX5_bestChoice dX5_spot_36 mlX5_180 rfl rfl ⟨by decide, by decide⟩ rfl (Nat.le_of_ble_eq_true rfl) (fun r36 τ36 h36 => ?_)
      obtain ⟨rfl, sc⟩ := h36
      refine ev_iret dX5_spot_39 rfl rfl ?_
      exact ⟨rfl, sc⟩
    · rw [if_neg (by omega)]
      refine ev_aload_n dX5_spot_18 rfl ?_
      refine ev_iconst dX5_spot_19 ?_
      refine ev_V1 (c_X5_finding (by omega)) okX5_finding dX5_spot_20 mlX5_55 rfl rfl ⟨by decide, by decide⟩ rfl (Nat.le_of_ble_eq_true rfl) ?_
      refine ev_iret dX5_spot_23 rfl rfl ?_
      exact ⟨rfl, sameC_rf⟩
theorem c_X5_whose {b : ev_B} {σ : ev_M} {l n : Int} (H : okP (wn σ 1)) (h1 : (-2147483648 ≤ l ∧ l < 2147483648)) (h2 : (-2147483648 ≤ n ∧ n < 2147483648)) : Cl b mX5_whose [vR 0, vI l, vI n] σ (fun r τ => r = some (vI (sc_whose σ l n).1) ∧ sameC (sc_whose σ l n).2 τ) := by
  refine ev_enter okX5_whose.1 (Nat.le_of_ble_eq_true rfl) ?_
  unfold sc_whose
  have h0 := ok0 H
  obtain ⟨ns, hns, hns2⟩ := nn_ex h0.2.2.1.1
  refine ev_aload_n dX5_whose_0 rfl ?_
  refine ev_iload_n dX5_whose_1 rfl ?_
  refine ev_Vbeq (tgt := 18) (c_X5_isLikeness (by omega) (by omega)) okX5_isLikeness dX5_whose_2 mlX5_128 rfl rfl ⟨by decide, by decide⟩ rfl (Nat.le_of_ble_eq_true rfl) dX5_whose_5 (by decide) (fun c2 => ?_) (fun c2 => ?_)
  · rw [if_neg (by omega)]
    refine ev_aload_n dX5_whose_18 rfl ?_
    refine ev_iconst dX5_whose_19 ?_
    refine ev_V1 (c_X5_finding (by omega)) okX5_finding dX5_whose_20 mlX5_55 rfl rfl ⟨by decide, by decide⟩ rfl (Nat.le_of_ble_eq_true rfl) ?_
    refine ev_iret dX5_whose_23 rfl rfl ?_
    exact ⟨rfl, sameC_rf⟩
  · refine ev_iload_n dX5_whose_8 rfl ?_
    refine ev_iconst dX5_whose_9 ?_
    refine ev_bipush dX5_whose_10 (by decide) ?_
    refine ev_Sbne (tgt := 24) (c_X5_isWithin (by omega) (by omega) (by omega)) okX5_isWithin dX5_whose_12 mlX5_51 ⟨by decide, by decide⟩ rfl (Nat.le_of_ble_eq_true rfl) dX5_whose_15 (by decide) (fun c12 => ?_) (fun c12 => ?_)
    · rw [if_pos (by omega)]
      obtain ⟨m, hm, hm2⟩ := nn_ex (x := n) (by omega)
      subst hm
      rw [hm2]
      rw [hns2]
      refine ev_aload_n dX5_whose_24 rfl ?_
      refine ev_aload_n dX5_whose_25 rfl ?_
      refine ev_getr 2 dX5_whose_26 rfl rfl flX5_19 iwX5 (by decide) rfl ?_
      refine ev_getr 10 dX5_whose_29 rfl rfl flX5_134 iwX2 (by decide) rfl ?_
      refine ev_iload_n dX5_whose_32 rfl ?_
      refine ev_aload_n dX5_whose_33 rfl ?_
      refine ev_getr 0 dX5_whose_34 rfl rfl flX5_10 iwX5 (by decide) rfl ?_
      refine ev_geti 3 3 dX5_whose_37 rfl rfl flX5_79 iwX2 (by decide) rfl rfl ?_
      rw [hns]
      refine ev_iload_n dX5_whose_40 rfl ?_
      refine ev_callV (c_X5_bestChoice (j := 7) (nr := 8) (N := ns) (n := m) H (by decide) rfl (by omega) (by omega) (by omega) (fun v hv => okP_mup7 H (by show 0 ≤ v ∧ v < σ 1 3; omega))) okX5_bestChoice dX5_whose_41 mlX5_180 rfl rfl ⟨by decide, by decide⟩ rfl (Nat.le_of_ble_eq_true rfl) (fun r41 τ41 h41 => ?_)
      obtain ⟨rfl, sc⟩ := h41
      refine ev_iret dX5_whose_44 rfl rfl ?_
      exact ⟨rfl, sc⟩
    · rw [if_neg (by omega)]
      refine ev_aload_n dX5_whose_18 rfl ?_
      refine ev_iconst dX5_whose_19 ?_
      refine ev_V1 (c_X5_finding (by omega)) okX5_finding dX5_whose_20 mlX5_55 rfl rfl ⟨by decide, by decide⟩ rfl (Nat.le_of_ble_eq_true rfl) ?_
      refine ev_iret dX5_whose_23 rfl rfl ?_
      exact ⟨rfl, sameC_rf⟩
theorem c_X5_kind {b : ev_B} {σ : ev_M} {s n : Int} (H : okP (wn σ 1)) (h1 : (-2147483648 ≤ s ∧ s < 2147483648)) (h2 : (-2147483648 ≤ n ∧ n < 2147483648)) : Cl b mX5_kind [vR 0, vI s, vI n] σ (fun r τ => r = some (vI (sc_kind σ s n).1) ∧ sameC (sc_kind σ s n).2 τ) := by
  refine ev_enter okX5_kind.1 (Nat.le_of_ble_eq_true rfl) ?_
  unfold sc_kind
  have h0 := ok0 H
  obtain ⟨ns, hns, hns2⟩ := nn_ex h0.2.2.1.1
  refine ev_aload_n dX5_kind_0 rfl ?_
  refine ev_iload_n dX5_kind_1 rfl ?_
  refine ev_Vbeq (tgt := 18) (c_X5_isSitter (by omega) (by omega)) okX5_isSitter dX5_kind_2 mlX5_85 rfl rfl ⟨by decide, by decide⟩ rfl (Nat.le_of_ble_eq_true rfl) dX5_kind_5 (by decide) (fun c2 => ?_) (fun c2 => ?_)
  · rw [if_neg (by omega)]
    refine ev_aload_n dX5_kind_18 rfl ?_
    refine ev_iconst dX5_kind_19 ?_
    refine ev_V1 (c_X5_finding (by omega)) okX5_finding dX5_kind_20 mlX5_55 rfl rfl ⟨by decide, by decide⟩ rfl (Nat.le_of_ble_eq_true rfl) ?_
    refine ev_iret dX5_kind_23 rfl rfl ?_
    exact ⟨rfl, sameC_rf⟩
  · refine ev_iload_n dX5_kind_8 rfl ?_
    refine ev_iconst dX5_kind_9 ?_
    refine ev_bipush dX5_kind_10 (by decide) ?_
    refine ev_Sbne (tgt := 24) (c_X5_isWithin (by omega) (by omega) (by omega)) okX5_isWithin dX5_kind_12 mlX5_51 ⟨by decide, by decide⟩ rfl (Nat.le_of_ble_eq_true rfl) dX5_kind_15 (by decide) (fun c12 => ?_) (fun c12 => ?_)
    · rw [if_pos (by omega)]
      obtain ⟨m, hm, hm2⟩ := nn_ex (x := n) (by omega)
      subst hm
      rw [hm2]
      refine ev_aload_n dX5_kind_24 rfl ?_
      refine ev_aload_n dX5_kind_25 rfl ?_
      refine ev_getr 2 dX5_kind_26 rfl rfl flX5_19 iwX5 (by decide) rfl ?_
      refine ev_getr 4 dX5_kind_29 rfl rfl flX5_88 iwX2 (by decide) rfl ?_
      refine ev_iload_n dX5_kind_32 rfl ?_
      refine ev_bipush dX5_kind_33 (by decide) ?_
      refine ev_iload_n dX5_kind_35 rfl ?_
      refine ev_callV (c_X5_bestChoice (j := 2) (nr := 6) (N := 6) (n := m) H (by decide) rfl (by omega) (by omega) (by omega) (fun v hv => okP_mup2 H (by omega))) okX5_bestChoice dX5_kind_36 mlX5_180 rfl rfl ⟨by decide, by decide⟩ rfl (Nat.le_of_ble_eq_true rfl) (fun r36 τ36 h36 => ?_)
      obtain ⟨rfl, sc⟩ := h36
      refine ev_iret dX5_kind_39 rfl rfl ?_
      exact ⟨rfl, sc⟩
    · rw [if_neg (by omega)]
      refine ev_aload_n dX5_kind_18 rfl ?_
      refine ev_iconst dX5_kind_19 ?_
      refine ev_V1 (c_X5_finding (by omega)) okX5_finding dX5_kind_20 mlX5_55 rfl rfl ⟨by decide, by decide⟩ rfl (Nat.le_of_ble_eq_true rfl) ?_
      refine ev_iret dX5_kind_23 rfl rfl ?_
      exact ⟨rfl, sameC_rf⟩
theorem c_X5_temper {b : ev_B} {σ : ev_M} {s n : Int} (H : okP (wn σ 1)) (h1 : (-2147483648 ≤ s ∧ s < 2147483648)) (h2 : (-2147483648 ≤ n ∧ n < 2147483648)) : Cl b mX5_temper [vR 0, vI s, vI n] σ (fun r τ => r = some (vI (sc_temper σ s n).1) ∧ sameC (sc_temper σ s n).2 τ) := by
  refine ev_enter okX5_temper.1 (Nat.le_of_ble_eq_true rfl) ?_
  unfold sc_temper
  have h0 := ok0 H
  obtain ⟨ns, hns, hns2⟩ := nn_ex h0.2.2.1.1
  refine ev_aload_n dX5_temper_0 rfl ?_
  refine ev_iload_n dX5_temper_1 rfl ?_
  refine ev_Vbeq (tgt := 18) (c_X5_isSitter (by omega) (by omega)) okX5_isSitter dX5_temper_2 mlX5_85 rfl rfl ⟨by decide, by decide⟩ rfl (Nat.le_of_ble_eq_true rfl) dX5_temper_5 (by decide) (fun c2 => ?_) (fun c2 => ?_)
  · rw [if_neg (by omega)]
    refine ev_aload_n dX5_temper_18 rfl ?_
    refine ev_iconst dX5_temper_19 ?_
    refine ev_V1 (c_X5_finding (by omega)) okX5_finding dX5_temper_20 mlX5_55 rfl rfl ⟨by decide, by decide⟩ rfl (Nat.le_of_ble_eq_true rfl) ?_
    refine ev_iret dX5_temper_23 rfl rfl ?_
    exact ⟨rfl, sameC_rf⟩
  · refine ev_iload_n dX5_temper_8 rfl ?_
    refine ev_iconst dX5_temper_9 ?_
    refine ev_bipush dX5_temper_10 (by decide) ?_
    refine ev_Sbne (tgt := 24) (c_X5_isWithin (by omega) (by omega) (by omega)) okX5_isWithin dX5_temper_12 mlX5_51 ⟨by decide, by decide⟩ rfl (Nat.le_of_ble_eq_true rfl) dX5_temper_15 (by decide) (fun c12 => ?_) (fun c12 => ?_)
    · rw [if_pos (by omega)]
      obtain ⟨m, hm, hm2⟩ := nn_ex (x := n) (by omega)
      subst hm
      rw [hm2]
      refine ev_aload_n dX5_temper_24 rfl ?_
      refine ev_aload_n dX5_temper_25 rfl ?_
      refine ev_getr 2 dX5_temper_26 rfl rfl flX5_19 iwX5 (by decide) rfl ?_
      refine ev_getr 5 dX5_temper_29 rfl rfl flX5_91 iwX2 (by decide) rfl ?_
      refine ev_iload_n dX5_temper_32 rfl ?_
      refine ev_bipush dX5_temper_33 (by decide) ?_
      refine ev_iload_n dX5_temper_35 rfl ?_
      refine ev_callV (c_X5_bestChoice (j := 3) (nr := 6) (N := 31) (n := m) H (by decide) rfl (by omega) (by omega) (by omega) (fun v hv => okP_mup3 H (by omega))) okX5_bestChoice dX5_temper_36 mlX5_180 rfl rfl ⟨by decide, by decide⟩ rfl (Nat.le_of_ble_eq_true rfl) (fun r36 τ36 h36 => ?_)
      obtain ⟨rfl, sc⟩ := h36
      refine ev_iret dX5_temper_39 rfl rfl ?_
      exact ⟨rfl, sc⟩
    · rw [if_neg (by omega)]
      refine ev_aload_n dX5_temper_18 rfl ?_
      refine ev_iconst dX5_temper_19 ?_
      refine ev_V1 (c_X5_finding (by omega)) okX5_finding dX5_temper_20 mlX5_55 rfl rfl ⟨by decide, by decide⟩ rfl (Nat.le_of_ble_eq_true rfl) ?_
      refine ev_iret dX5_temper_23 rfl rfl ?_
      exact ⟨rfl, sameC_rf⟩
