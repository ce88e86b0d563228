/-! a day of the model -/
def r1 (f w : Int → Int) : Int → Int := fun i => if 4 ≤ i ∧ i < 52 then w (i - 4) else f i
def r2 (f m : Int → Int) (n : Int) : Int → Int := fun j => if 53 ≤ j ∧ j < 53 + 4 * n ∧ (j - 53) % 4 = 0 then m ((j - 53) / 4) else f j
def r3 (f m : Int → Int) (n : Int) : Int → Int := fun j => if 78 ≤ j ∧ j < 78 + 3 * n ∧ (j - 78) % 3 = 0 then m ((j - 78) / 3) else f j
theorem r1_at {f w : Int → Int} {c : Int} (h : 0 ≤ c ∧ c < 48) : r1 f w (4 + c) = w c := by
  unfold r1; rw [if_pos (by omega), show 4 + c - 4 = c by omega]
theorem r1_ne {f w : Int → Int} {i : Int} (h : i < 4 ∨ 52 ≤ i) : r1 f w i = f i := by unfold r1; rw [if_neg (by omega)]
theorem r1_up {f w : Int → Int} {c v : Int} (h : 0 ≤ c ∧ c < 48) : upw (r1 f w) (4 + c) v = r1 f (upw w c v) := by
  funext i
  unfold upw r1
  by_cases e : i = 4 + c
  · rw [if_pos e, if_pos (by omega)]; exact (if_pos (by omega)).symm
  · rw [if_neg e]
    by_cases q : 4 ≤ i ∧ i < 52
    · rw [if_pos q, if_pos q]; exact (if_neg (by omega)).symm
    · rw [if_neg q, if_neg q]
theorem r2_0 {f m : Int → Int} : r2 f m 0 = f := by funext j; unfold r2; rw [if_neg (by omega)]
theorem r2_at {f m : Int → Int} {n k : Int} (h : 0 ≤ k ∧ k < n) : r2 f m n (52 + 4 * k + 1) = m k := by
  unfold r2; rw [if_pos (by omega), show (52 + 4 * k + 1 - 53) / 4 = k by omega]
theorem r2_ne {f m : Int → Int} {n j : Int} (h : j < 53 ∨ 53 + 4 * n ≤ j ∨ (j - 53) % 4 ≠ 0) : r2 f m n j = f j := by unfold r2; rw [if_neg (by omega)]
theorem r2_up {f m : Int → Int} {n : Int} (h : 0 ≤ n) : upw (r2 f m n) (52 + 4 * n + 1) (m n) = r2 f m (n + 1) := by
  funext j
  unfold upw r2
  by_cases e : j = 52 + 4 * n + 1
  · rw [if_pos e, if_pos (by omega), show (j - 53) / 4 = n by omega]
  · rw [if_neg e]
    by_cases q : 53 ≤ j ∧ j < 53 + 4 * n ∧ (j - 53) % 4 = 0
    · rw [if_pos q, if_pos (by omega)]
    · rw [if_neg q, if_neg (by omega)]
theorem r3_0 {f m : Int → Int} : r3 f m 0 = f := by funext j; unfold r3; rw [if_neg (by omega)]
theorem r3_at {f m : Int → Int} {n k : Int} (h : 0 ≤ k ∧ k < n) : r3 f m n (76 + 3 * k + 2) = m k := by
  unfold r3; rw [if_pos (by omega), show (76 + 3 * k + 2 - 78) / 3 = k by omega]
theorem r3_ne {f m : Int → Int} {n j : Int} (h : j < 78 ∨ 78 + 3 * n ≤ j ∨ (j - 78) % 3 ≠ 0) : r3 f m n j = f j := by unfold r3; rw [if_neg (by omega)]
theorem r3_up {f m : Int → Int} {n : Int} (h : 0 ≤ n) : upw (r3 f m n) (76 + 3 * n + 2) (m n) = r3 f m (n + 1) := by
  funext j
  unfold upw r3
  by_cases e : j = 76 + 3 * n + 2
  · rw [if_pos e, if_pos (by omega), show (j - 78) / 3 = n by omega]
  · rw [if_neg e]
    by_cases q : 78 ≤ j ∧ j < 78 + 3 * n ∧ (j - 78) % 3 = 0
    · rw [if_pos q, if_pos (by omega)]
    · rw [if_neg q, if_neg (by omega)]
def mid (f g : Int → Int) : Prop := g 0 = f 0 ∧ g 1 = f 1 ∧ g 3 = f 3 ∧ 0 ≤ g 2 ∧ (∀ c : Int, 0 ≤ c ∧ c < 48 → 0 ≤ g (4 + c) ∧ g (4 + c) ≤ 99) ∧ (∀ k : Int, 0 ≤ k ∧ k < f 0 → g (52 + 4 * k + 0) = f (52 + 4 * k + 0) ∧ (0 ≤ g (52 + 4 * k + 1) ∧ g (52 + 4 * k + 1) ≤ 30) ∧ g (52 + 4 * k + 2) = f (52 + 4 * k + 2) ∧ g (52 + 4 * k + 3) = f (52 + 4 * k + 3)) ∧ (∀ l : Int, 0 ≤ l ∧ l < f 1 → g (76 + 3 * l + 0) = f (76 + 3 * l + 0) ∧ g (76 + 3 * l + 1) = f (76 + 3 * l + 1) ∧ (0 ≤ g (76 + 3 * l + 2) ∧ g (76 + 3 * l + 2) ≤ 9999))
theorem mid_ok {f g : Int → Int} (H : okP (wr f)) (h : mid f g) : okP (wr g) := by
  have h0 := okr0 H
  obtain ⟨g0, g1, g3, g2, gw, gs, gl⟩ := h
  refine ⟨by show 0 ≤ g 3 ∧ g 3 ≤ 20; omega, g2, by show 0 ≤ g 0 ∧ g 0 ≤ 6; omega, by show 0 ≤ g 1 ∧ g 1 ≤ 8; omega, gw, fun k hk => ?_, fun l hl => ?_⟩
  · have hk2 : 0 ≤ k ∧ k < f 0 := by rw [← g0]; exact hk
    obtain ⟨a, b, c, d⟩ := gs k hk2
    have q := okrs H hk2
    exact ⟨by show 0 ≤ g (52 + 4 * k + 0) ∧ g (52 + 4 * k + 0) ≤ 5; omega, b, by show 0 ≤ g (52 + 4 * k + 2) ∧ g (52 + 4 * k + 2) ≤ 99; omega, by show 0 ≤ g (52 + 4 * k + 3); omega⟩
  · have hl2 : 0 ≤ l ∧ l < f 1 := by rw [← g1]; exact hl
    obtain ⟨a, b, c⟩ := gl l hl2
    have q := okrl H hl2
    exact ⟨by show 0 ≤ g (76 + 3 * l + 0) ∧ g (76 + 3 * l + 0) < 48; omega, by show 0 ≤ g (76 + 3 * l + 1) ∧ g (76 + 3 * l + 1) < g 0; omega, c⟩
theorem mid_mts {f g : Int → Int} {pr : Int → Bool} {k : Int} {n : Nat} (h : mid f g) (hn : (n : Int) ≤ f 1) : mts (wr g) pr k n = mts (wr f) pr k n := by
  obtain ⟨g0, g1, g3, g2, gw, gs, gl⟩ := h
  unfold mts
  refine sm_congr (fun l hl => sm_congr (fun o ho => ?_))
  obtain ⟨a1, a2, a3⟩ := gl l (by omega)
  obtain ⟨b1, b2, b3⟩ := gl o (by omega)
  have e1 : wr g 6 l = wr f 6 l := a1
  have e2 : wr g 7 l = wr f 7 l := a2
  have e3 : wr g 6 o = wr f 6 o := b1
  have e4 : wr g 7 o = wr f 7 o := b2
  unfold mpr
  rw [e1, e2, e3, e4]
theorem mts_nn {P : ev_M} {pr : Int → Bool} {k : Int} {n : Nat} (hn : n ≤ 8) : 0 ≤ mts P pr k n ∧ mts P pr k n ≤ 64 := by
  unfold mts
  have h := sm_bd (f := fun l => sm (fun o => mpr P pr k l o) l.toNat) (lo := 0) (hi := 8) (n := n) (fun i hi => by
    have h2 := sm_bd (f := fun o => mpr P pr k i o) (lo := 0) (hi := 1) (n := ((i : Nat) : Int).toNat) (fun o _ => by unfold mpr; split <;> omega)
    try simp only []
    omega)
  omega
theorem c_X6_day {b : ev_B} {σ : ev_M} (H : okP (wr (σ 47))) (ha : 0 ≤ σ 46 6 ∧ σ 46 6 < 256) : Cl b mX6_day [vR 46] σ (fun r τ => r = some (vI (dayE (wr (σ 47)) (prA (σ 46 6)))) ∧ eqP (wr (τ 47)) (dayM (wr (σ 47)) (prA (σ 46 6))) ∧ ∀ a : Nat, a ≠ 47 → a < 52 ∨ 54 < a → τ a = σ a) := by
  refine ev_enter okX6_day.1 (Nat.le_of_ble_eq_true rfl) ?_
  have h0 := okr0 H
  obtain ⟨nl, hnl, hnl2⟩ := nn_ex h0.2.2.2.1
  obtain ⟨ns, hns, hns2⟩ := nn_ex h0.2.2.1.1
  obtain ⟨nc, hnc, hnc2⟩ := nn_ex h0.1.1
  have main : ∀ (ω : ev_M) (ls : List (Nat × ev_V)), ev_lk ls 0 = some (vR 46) → ev_lk ls 1 = some (vI 0) → (∀ a : Nat, a < 52 ∨ 54 < a → ω a = σ a) → (0 < nc → ∀ c : Int, 0 ≤ c ∧ c < 48 → ω 52 c = fear (wr (σ 47)) (prA (σ 46 6)) c) → Ev b mX6_day 15 ls [] ω (fun r τ => r = some (vI (dayE (wr (σ 47)) (prA (σ 46 6)))) ∧ eqP (wr (τ 47)) (dayM (wr (σ 47)) (prA (σ 46 6))) ∧ ∀ a : Nat, a ≠ 47 → a < 52 ∨ 54 < a → τ a = σ a) := by
    intro ω ls l0 l1 fo fw
    refine Ev.lsub (ls' := [(0, vR 46), (1, vI 0)]) (by simp [l0, l1]) ?_
    generalize hf : σ 47 = f at *
    have e46 : ω 46 6 = σ 46 6 := by rw [fo 46 (by omega)]
    have e47 : ω 47 = f := by rw [fo 47 (by omega)]; exact hf
    generalize hF : ω 52 = F at fw
    generalize hpr : prA (σ 46 6) = pr at *
    have eat : dayE (wr f) pr = (eatc F (fun c => f (4 + c)) nc).2 ∧ ∀ c : Int, 0 ≤ c ∧ c < 48 → (dayW (wr f) pr).1 c = (eatc F (fun c => f (4 + c)) nc).1 c := by
      have en : (wr f 0 1).toNat = nc := hnc2
      unfold dayE dayW
      rw [en]
      by_cases z : 0 < nc
      · have ec := eatc_congr2 (f := fear (wr f) pr) (f' := F) (w := wr f 1) (w' := fun c => f (4 + c)) (fun c hc => ⟨rfl, (fw z c hc).symm⟩) nc
        exact ⟨ec.1, ec.2⟩
      · have e : nc = 0 := by omega
        subst e
        exact ⟨rfl, fun c _ => rfl⟩
    have eok := fun k => eatc_ok (f := F) (w := fun c => f (4 + c)) (fun c hc => okrw H hc) k
    generalize hW : (fun c => f (4 + c)) = W at *
    generalize hmT : (fun k => max 0 (f (52 + 4 * k + 1) - mts (wr f) pr k nl)) = mT
    have hmTv : ∀ k, mT k = max 0 (f (52 + 4 * k + 1) - mts (wr f) pr k nl) := fun k => by rw [← hmT]
    generalize hmA : (fun l => min 9999 (f (76 + 3 * l + 2) + 1)) = mA
    have hmAv : ∀ l, mA l = min 9999 (f (76 + 3 * l + 2) + 1) := fun l => by rw [← hmA]
    generalize hw : (eatc F W nc).1 = w at eat
    have hwb : ∀ c : Int, 0 ≤ c ∧ c < 48 → 0 ≤ w c ∧ w c ≤ 99 := fun c hc => by rw [← hw]; exact (eok nc).1 c hc
    have md2 : ∀ i : Nat, i ≤ ns → mid f (r2 (r1 f w) mT i) := by
      intro i hi
      refine ⟨by rw [r2_ne (by omega), r1_ne (by omega)], by rw [r2_ne (by omega), r1_ne (by omega)], by rw [r2_ne (by omega), r1_ne (by omega)], by rw [r2_ne (by omega), r1_ne (by omega)]; omega, fun c hc => by rw [r2_ne (by omega), r1_at hc]; exact hwb c hc, fun k hk => ?_, fun l hl => ?_⟩
      · refine ⟨by rw [r2_ne (by omega), r1_ne (by omega)], ?_, by rw [r2_ne (by omega), r1_ne (by omega)], by rw [r2_ne (by omega), r1_ne (by omega)]⟩
        have q := okrs H hk
        have mn := mts_nn (P := wr f) (pr := pr) (k := k) (n := nl) (by omega)
        by_cases z : k < i
        · rw [r2_at (by omega), hmTv]; omega
        · rw [r2_ne (by omega), r1_ne (by omega)]; exact q.2.1
      · have q := okrl H hl
        exact ⟨by rw [r2_ne (by omega), r1_ne (by omega)], by rw [r2_ne (by omega), r1_ne (by omega)], by rw [r2_ne (by omega), r1_ne (by omega)]; exact q.2.2⟩
    generalize hg2 : r2 (r1 f w) mT ns = g2
    have m2 : mid f g2 := by rw [← hg2]; exact md2 ns (by omega)
    have g2T : ∀ k : Int, 0 ≤ k ∧ k < ns → g2 (52 + 4 * k + 1) = mT k := fun k hk => by rw [← hg2, r2_at hk]
    have g2W : ∀ c : Int, 0 ≤ c ∧ c < 48 → g2 (4 + c) = w c := fun c hc => by rw [← hg2, r2_ne (by omega), r1_at hc]
    have g22 : g2 2 = f 2 := by rw [← hg2, r2_ne (by omega), r1_ne (by omega)]
    have g2A : ∀ l : Int, 0 ≤ l ∧ l < nl → g2 (76 + 3 * l + 2) = f (76 + 3 * l + 2) := fun l hl => by rw [← hg2, r2_ne (by omega), r1_ne (by omega)]
    have last : ∀ (m i : Nat) (ls : List (Nat × ev_V)), ev_lk ls 0 = some (vR 46) → ev_lk ls 1 = some (vI (dayE (wr f) pr)) → ev_lk ls 2 = some (vI i) → i + m = nl → Ev b mX6_day 131 ls [] (srow ω 47 (r3 g2 mA i)) (fun r τ => r = some (vI (dayE (wr f) pr)) ∧ eqP (wr (τ 47)) (dayM (wr f) pr) ∧ ∀ a : Nat, a ≠ 47 → a < 52 ∨ 54 < a → τ a = σ a) := by
      intro m
      induction m with
      | zero =>
        intro i ls l0 l1 l2 h
        refine Ev.lsub (ls' := [(0, vR 46), (1, vI (dayE (wr f) pr)), (2, vI i)]) (by simp [l0, l1, l2]) ?_
        have e1 : srow ω 47 (r3 g2 mA i) 47 1 = nl := by rw [srow_at, r3_ne (by omega), m2.2.1]; exact hnl
        refine ev_iload_n dX6_day_131 rfl ?_
        refine ev_aload_n dX6_day_132 rfl ?_
        refine ev_getr 0 dX6_day_133 rfl rfl flX6_7 iwX6 (by decide) rfl ?_
        refine ev_iconst dX6_day_136 ?_
        refine ev_iald dX6_day_137 rfl (by omega) ?_
        refine ev_icmp_ge (tgt := 177) dX6_day_138 (by decide) (by omega) (by omega) (fun c138 => ?_) (fun c138 => ?_)
        · have e2 : srow ω 47 (r3 g2 mA i) 47 2 = f 2 := by rw [srow_at, r3_ne (by omega)]; exact g22
          refine ev_aload_n dX6_day_177 rfl ?_
          refine ev_getr 0 dX6_day_178 rfl rfl flX6_7 iwX6 (by decide) rfl ?_
          refine ev_iconst dX6_day_181 ?_
          refine ev_dup2 dX6_day_182 rfl rfl ?_
          refine ev_iald dX6_day_183 rfl (by omega) ?_
          rw [e2]
          refine ev_iconst dX6_day_184 ?_
          refine ev_iadd dX6_day_185 ?_
          refine ev_iast dX6_day_186 rfl (by omega) ?_
          refine ev_iload_n dX6_day_187 rfl ?_
          refine ev_iret dX6_day_188 rfl rfl ?_
          have e : i = nl := by omega
          subst e
          refine ⟨rfl, ?_, fun a h1 h2 => by rw [mup_ne h1, srow_ne h1]; exact fo a h2⟩
          rw [srow_up, srow_at]
          have t : ∀ j : Int, j ≠ 2 → upw (r3 g2 mA i) 2 (f 2 + 1) j = r3 g2 mA i j := fun j hj => upw_ne hj
          have t2 : upw (r3 g2 mA i) 2 (f 2 + 1) 2 = f 2 + 1 := upw_at
          generalize upw (r3 g2 mA i) 2 (f 2 + 1) = R at t t2
          have R3 : R 3 = f 3 := by rw [t 3 (by omega), r3_ne (by omega)]; exact m2.2.2.1
          have R0 : R 0 = f 0 := by rw [t 0 (by omega), r3_ne (by omega)]; exact m2.1
          have R1 : R 1 = f 1 := by rw [t 1 (by omega), r3_ne (by omega)]; exact m2.2.1
          refine ⟨R3, t2, R0, R1, fun c hc => ?_, fun k hk => ?_, fun l hl => ?_⟩
          · show R (4 + c) = (dayW (wr f) pr).1 c
            rw [t _ (by omega), r3_ne (by omega), g2W c hc, eat.2 c hc]
          · have hk2 : 0 ≤ k ∧ k < f 0 := hk
            obtain ⟨a1, a2, a3, a4⟩ := m2.2.2.2.2.2.1 k hk2
            refine ⟨?_, ?_, ?_, ?_⟩
            · show R (52 + 4 * k + 0) = f (52 + 4 * k + 0)
              rw [t _ (by omega), r3_ne (by omega)]; exact a1
            · show R (52 + 4 * k + 1) = (if 0 ≤ k ∧ k < f 0 then max 0 (f (52 + 4 * k + 1) - mts (wr f) pr k (f 1).toNat) else f (52 + 4 * k + 1))
              rw [if_pos hk2, t _ (by omega), r3_ne (by omega), g2T k (by omega), hmTv, hnl2]
            · show R (52 + 4 * k + 2) = f (52 + 4 * k + 2)
              rw [t _ (by omega), r3_ne (by omega)]; exact a3
            · show R (52 + 4 * k + 3) = f (52 + 4 * k + 3)
              rw [t _ (by omega), r3_ne (by omega)]; exact a4
          · have hl2 : 0 ≤ l ∧ l < f 1 := hl
            obtain ⟨a1, a2, a3⟩ := m2.2.2.2.2.2.2 l hl2
            refine ⟨?_, ?_, ?_⟩
            · show R (76 + 3 * l + 0) = f (76 + 3 * l + 0)
              rw [t _ (by omega), r3_ne (by omega)]; exact a1
            · show R (76 + 3 * l + 1) = f (76 + 3 * l + 1)
              rw [t _ (by omega), r3_ne (by omega)]; exact a2
            · show R (76 + 3 * l + 2) = (if 0 ≤ l ∧ l < f 1 then min 9999 (f (76 + 3 * l + 2) + 1) else f (76 + 3 * l + 2))
              rw [if_pos hl2, t _ (by omega), r3_at (by omega), hmAv]
        · exact absurd c138 (by omega)
      | succ m ih =>
        intro i ls l0 l1 l2 h
        refine Ev.lsub (ls' := [(0, vR 46), (1, vI (dayE (wr f) pr)), (2, vI i)]) (by simp [l0, l1, l2]) ?_
        have e1 : srow ω 47 (r3 g2 mA i) 47 1 = nl := by rw [srow_at, r3_ne (by omega), m2.2.1]; exact hnl
        have e2 : srow ω 47 (r3 g2 mA i) 47 (76 + 3 * i + 2) = f (76 + 3 * i + 2) := by rw [srow_at, r3_ne (by omega), g2A i (by omega)]
        have q := okrl H (l := i) (by omega)
        refine ev_iload_n dX6_day_131 rfl ?_
        refine ev_aload_n dX6_day_132 rfl ?_
        refine ev_getr 0 dX6_day_133 rfl rfl flX6_7 iwX6 (by decide) rfl ?_
        refine ev_iconst dX6_day_136 ?_
        refine ev_iald dX6_day_137 rfl (by omega) ?_
        refine ev_icmp_ge (tgt := 177) dX6_day_138 (by decide) (by omega) (by omega) (fun c138 => ?_) (fun c138 => ?_)
        · exact absurd c138 (by omega)
        · refine ev_aload_n dX6_day_141 rfl ?_
          refine ev_getr 0 dX6_day_142 rfl rfl flX6_7 iwX6 (by decide) rfl ?_
          refine ev_iload_n dX6_day_145 rfl ?_
          refine ev_iconst dX6_day_146 ?_
          refine ev_S1 c_X6_placeOf okX6_placeOf dX6_day_147 mlX6_63 ⟨by decide, by decide⟩ rfl (Nat.le_of_ble_eq_true rfl) ?_
          refine ev_dup2 dX6_day_150 rfl rfl ?_
          refine ev_iald dX6_day_151 rfl (by omega) ?_
          rw [e2]
          refine ev_aload_n dX6_day_152 rfl ?_
          refine ev_iload_n dX6_day_153 rfl ?_
          refine ev_iconst dX6_day_154 ?_
          refine ev_V1 (c_X6_likes (by omega)) okX6_likes dX6_day_155 mlX6_70 rfl rfl ⟨by decide, by decide⟩ rfl (Nat.le_of_ble_eq_true rfl) ?_
          rw [e2]
          refine ev_sipush dX6_day_158 (by decide) ?_
          refine ev_icmp_ge (tgt := 168) dX6_day_161 (by decide) (by omega) (by omega) (fun c161 => ?_) (fun c161 => ?_)
          · refine ev_iconst dX6_day_168 ?_
            refine ev_iadd dX6_day_169 ?_
            refine ev_iast dX6_day_170 rfl (by omega) ?_
            refine ev_iinc dX6_day_171 rfl (by decide) rfl ?_
            refine ev_goto (tgt := 131) dX6_day_174 (by decide) ?_
            rw [show f (76 + 3 * i + 2) + 0 = mA i by rw [hmAv]; omega, srow_up, r3_up (by omega)]
            exact ih (i + 1) _ rfl rfl rfl (by omega)
          · refine ev_iconst dX6_day_164 ?_
            refine ev_goto (tgt := 169) dX6_day_165 (by decide) ?_
            refine ev_iadd dX6_day_169 ?_
            refine ev_iast dX6_day_170 rfl (by omega) ?_
            refine ev_iinc dX6_day_171 rfl (by decide) rfl ?_
            refine ev_goto (tgt := 131) dX6_day_174 (by decide) ?_
            rw [show f (76 + 3 * i + 2) + 1 = mA i by rw [hmAv]; omega, srow_up, r3_up (by omega)]
            exact ih (i + 1) _ rfl rfl rfl (by omega)
    have second : ∀ (m i : Nat) (ls : List (Nat × ev_V)), ev_lk ls 0 = some (vR 46) → ev_lk ls 1 = some (vI (dayE (wr f) pr)) → ev_lk ls 2 = some (vI i) → i + m = ns → Ev b mX6_day 88 ls [] (srow ω 47 (r2 (r1 f w) mT i)) (fun r τ => r = some (vI (dayE (wr f) pr)) ∧ eqP (wr (τ 47)) (dayM (wr f) pr) ∧ ∀ a : Nat, a ≠ 47 → a < 52 ∨ 54 < a → τ a = σ a) := by
      intro m
      induction m with
      | zero =>
        intro i ls l0 l1 l2 h
        refine Ev.lsub (ls' := [(0, vR 46), (1, vI (dayE (wr f) pr)), (2, vI i)]) (by simp [l0, l1, l2]) ?_
        have e0 : srow ω 47 (r2 (r1 f w) mT i) 47 0 = ns := by rw [srow_at, (md2 i (by omega)).1]; exact hns
        refine ev_iload_n dX6_day_88 rfl ?_
        refine ev_aload_n dX6_day_89 rfl ?_
        refine ev_getr 0 dX6_day_90 rfl rfl flX6_7 iwX6 (by decide) rfl ?_
        refine ev_iconst dX6_day_93 ?_
        refine ev_iald dX6_day_94 rfl (by omega) ?_
        refine ev_icmp_ge (tgt := 129) dX6_day_95 (by decide) (by omega) (by omega) (fun c95 => ?_) (fun c95 => ?_)
        · refine ev_iconst dX6_day_129 ?_
          refine ev_istore_n dX6_day_130 (by decide) rfl ?_
          have e : i = ns := by omega
          subst e
          rw [hg2]
          have l := last nl 0 [(0, vR 46), (1, vI (dayE (wr f) pr)), (2, vI 0)] rfl rfl rfl (by omega)
          rw [show ((0 : Nat) : Int) = 0 from rfl, r3_0] at l
          exact l
        · exact absurd c95 (by omega)
      | succ m ih =>
        intro i ls l0 l1 l2 h
        refine Ev.lsub (ls' := [(0, vR 46), (1, vI (dayE (wr f) pr)), (2, vI i)]) (by simp [l0, l1, l2]) ?_
        have mi := md2 i (by omega)
        have e0 : srow ω 47 (r2 (r1 f w) mT i) 47 0 = ns := by rw [srow_at, mi.1]; exact hns
        have e1 : srow ω 47 (r2 (r1 f w) mT i) 47 (52 + 4 * i + 1) = f (52 + 4 * i + 1) := by rw [srow_at, r2_ne (by omega), r1_ne (by omega)]
        have eM : mts (wr (srow ω 47 (r2 (r1 f w) mT i) 47)) (prA (srow ω 47 (r2 (r1 f w) mT i) 46 6)) i (srow ω 47 (r2 (r1 f w) mT i) 47 1).toNat = mts (wr f) pr i nl := by
          rw [srow_at, srow_ne (by decide), e46, hpr, mi.2.1, hnl2, mid_mts mi (by omega)]
        have mn := mts_nn (P := wr f) (pr := pr) (k := i) (n := nl) (by omega)
        have q := okrs H (k := i) (by omega)
        refine ev_iload_n dX6_day_88 rfl ?_
        refine ev_aload_n dX6_day_89 rfl ?_
        refine ev_getr 0 dX6_day_90 rfl rfl flX6_7 iwX6 (by decide) rfl ?_
        refine ev_iconst dX6_day_93 ?_
        refine ev_iald dX6_day_94 rfl (by omega) ?_
        refine ev_icmp_ge (tgt := 129) dX6_day_95 (by decide) (by omega) (by omega) (fun c95 => ?_) (fun c95 => ?_)
        · exact absurd c95 (by omega)
        · refine ev_aload_n dX6_day_98 rfl ?_
          refine ev_getr 0 dX6_day_99 rfl rfl flX6_7 iwX6 (by decide) rfl ?_
          refine ev_iload_n dX6_day_102 rfl ?_
          refine ev_iconst dX6_day_103 ?_
          refine ev_S1 c_X6_spotOf okX6_spotOf dX6_day_104 mlX6_59 ⟨by decide, by decide⟩ rfl (Nat.le_of_ble_eq_true rfl) ?_
          refine ev_aload_n dX6_day_107 rfl ?_
          refine ev_iload_n dX6_day_108 rfl ?_
          refine ev_iconst dX6_day_109 ?_
          refine ev_V1 (c_X6_its (by omega)) okX6_its dX6_day_110 mlX6_73 rfl rfl ⟨by decide, by decide⟩ rfl (Nat.le_of_ble_eq_true rfl) ?_
          refine ev_aload_n dX6_day_113 rfl ?_
          refine ev_iload_n dX6_day_114 rfl ?_
          refine ev_V1 (c_X6_meets (by rw [srow_at]; exact mid_ok H mi) (by rw [srow_ne (by decide), e46]; exact ha) (by omega)) okX6_meets dX6_day_115 mlX6_131 rfl rfl ⟨by decide, by decide⟩ rfl (Nat.le_of_ble_eq_true rfl) ?_
          rw [eM, e1]
          refine ev_isub dX6_day_118 ?_
          refine ev_S1 (c_X6_atLeastNothing (by omega)) okX6_atLeastNothing dX6_day_119 mlX6_80 ⟨by decide, by decide⟩ rfl (Nat.le_of_ble_eq_true rfl) ?_
          refine ev_iast dX6_day_122 rfl (by omega) ?_
          refine ev_iinc dX6_day_123 rfl (by decide) rfl ?_
          refine ev_goto (tgt := 88) dX6_day_126 (by decide) ?_
          rw [← hmTv, srow_up, r2_up (by omega)]
          exact ih (i + 1) _ rfl rfl rfl (by omega)
    have first : ∀ (m k : Nat) (ls : List (Nat × ev_V)), ev_lk ls 0 = some (vR 46) → ev_lk ls 1 = some (vI (eatc F W k).2) → ev_lk ls 2 = some (vI k) → k + m = nc → Ev b mX6_day 17 ls [] (srow ω 47 (r1 f (eatc F W k).1)) (fun r τ => r = some (vI (dayE (wr f) pr)) ∧ eqP (wr (τ 47)) (dayM (wr f) pr) ∧ ∀ a : Nat, a ≠ 47 → a < 52 ∨ 54 < a → τ a = σ a) := by
      intro m
      induction m with
      | zero =>
        intro k ls l0 l1 l2 h
        refine Ev.lsub (ls' := [(0, vR 46), (1, vI (eatc F W k).2), (2, vI k)]) (by simp [l0, l1, l2]) ?_
        have e3 : srow ω 47 (r1 f (eatc F W k).1) 47 3 = nc := by rw [srow_at, r1_ne (by omega)]; exact hnc
        refine ev_iload_n dX6_day_17 rfl ?_
        refine ev_aload_n dX6_day_18 rfl ?_
        refine ev_getr 0 dX6_day_19 rfl rfl flX6_7 iwX6 (by decide) rfl ?_
        refine ev_iconst dX6_day_22 ?_
        refine ev_iald dX6_day_23 rfl (by omega) ?_
        refine ev_icmp_ge (tgt := 86) dX6_day_24 (by decide) (by omega) (by omega) (fun c24 => ?_) (fun c24 => ?_)
        · refine ev_iconst dX6_day_86 ?_
          refine ev_istore_n dX6_day_87 (by decide) rfl ?_
          have e : k = nc := by omega
          subst e
          rw [hw, ← eat.1]
          have l := second ns 0 [(0, vR 46), (1, vI (dayE (wr f) pr)), (2, vI 0)] rfl rfl rfl (by omega)
          rw [show ((0 : Nat) : Int) = 0 from rfl, r2_0] at l
          exact l
        · exact absurd c24 (by omega)
      | succ m ih =>
        intro k ls l0 l1 l2 h
        refine Ev.lsub (ls' := [(0, vR 46), (1, vI (eatc F W k).2), (2, vI k)]) (by simp [l0, l1, l2]) ?_
        have e3 : srow ω 47 (r1 f (eatc F W k).1) 47 3 = nc := by rw [srow_at, r1_ne (by omega)]; exact hnc
        have ek := eok k
        generalize hE : eatc F W k = E at *
        have hw1 : ∀ c : Int, 0 ≤ c ∧ c < 48 → 0 ≤ srow ω 47 (r1 f E.1) 47 (4 + c) ∧ srow ω 47 (r1 f E.1) 47 (4 + c) ≤ 99 := fun c hc => by rw [srow_at, r1_at hc]; exact ek.1 c hc
        have hf1 : ∀ c : Int, 0 ≤ c ∧ c < 48 → -6000 ≤ srow ω 47 (r1 f E.1) 52 c ∧ srow ω 47 (r1 f E.1) 52 c ≤ 6000 := fun c hc => by
          rw [srow_ne (by decide), hF, fw (by omega) c hc]; exact fear_bd H hc
        have el : lnd (fun c => srow ω 47 (r1 f E.1) 47 (4 + c)) (srow ω 47 (r1 f E.1) 52) 48 = lnd E.1 F 48 := by
          refine lnd_congr (fun c hc => ⟨?_, ?_⟩)
          · rw [srow_at, r1_at hc]
          · rw [srow_ne (by decide), hF]
        have lb := lnd_bd E.1 F 48
        have eS : eatc F W (k + 1) = if lnd E.1 F 48 < 0 then E else (upw E.1 (lnd E.1 F 48) (E.1 (lnd E.1 F 48) - min 2 (E.1 (lnd E.1 F 48))), E.2 + min 2 (E.1 (lnd E.1 F 48))) := by rw [eatc, hE]
        refine ev_iload_n dX6_day_17 rfl ?_
        refine ev_aload_n dX6_day_18 rfl ?_
        refine ev_getr 0 dX6_day_19 rfl rfl flX6_7 iwX6 (by decide) rfl ?_
        refine ev_iconst dX6_day_22 ?_
        refine ev_iald dX6_day_23 rfl (by omega) ?_
        refine ev_icmp_ge (tgt := 86) dX6_day_24 (by decide) (by omega) (by omega) (fun c24 => ?_) (fun c24 => ?_)
        · exact absurd c24 (by omega)
        · refine ev_aload_n dX6_day_27 rfl ?_
          refine ev_V1 (c_X6_landsAt hw1 hf1) okX6_landsAt dX6_day_28 mlX6_158 rfl rfl ⟨by decide, by decide⟩ rfl (Nat.le_of_ble_eq_true rfl) ?_
          rw [el]
          refine ev_istore_n dX6_day_31 (by decide) rfl ?_
          refine ev_iload_n dX6_day_32 rfl ?_
          refine ev_if_lt (tgt := 80) dX6_day_33 (by decide) (by omega) (fun c33 => ?_) (fun c33 => ?_)
          · rw [if_pos c33] at eS
            refine ev_iinc dX6_day_80 rfl (by decide) rfl ?_
            refine ev_goto (tgt := 17) dX6_day_83 (by decide) ?_
            have l := ih (k + 1)
            rw [eS] at l
            exact l _ rfl rfl rfl (by omega)
          · rw [if_neg c33] at eS
            generalize hc : lnd E.1 F 48 = c at *
            have wc := ek.1 c (by omega)
            have e4 : srow ω 47 (r1 f E.1) 47 (4 + c) = E.1 c := by rw [srow_at, r1_at (by omega)]
            have J : ∀ x : Int, x = min 2 (E.1 c) → Ev b mX6_day 60 [(0, vR 46), (1, vI E.2), (2, vI k), (3, vI c)] [vI x] (srow ω 47 (r1 f E.1)) (fun r τ => r = some (vI (dayE (wr f) pr)) ∧ eqP (wr (τ 47)) (dayM (wr f) pr) ∧ ∀ a : Nat, a ≠ 47 → a < 52 ∨ 54 < a → τ a = σ a) := by
              intro x hx
              refine ev_istore dX6_day_60 (by decide) rfl ?_
              refine ev_aload_n dX6_day_62 rfl ?_
              refine ev_getr 0 dX6_day_63 rfl rfl flX6_7 iwX6 (by decide) rfl ?_
              refine ev_iconst dX6_day_66 ?_
              refine ev_iload_n dX6_day_67 rfl ?_
              refine ev_iadd dX6_day_68 ?_
              refine ev_dup2 dX6_day_69 rfl rfl ?_
              refine ev_iald dX6_day_70 rfl (by omega) ?_
              rw [e4]
              refine ev_iload dX6_day_71 rfl ?_
              refine ev_isub dX6_day_73 ?_
              refine ev_iast dX6_day_74 rfl (by omega) ?_
              refine ev_iload_n dX6_day_75 rfl ?_
              refine ev_iload dX6_day_76 rfl ?_
              refine ev_iadd dX6_day_78 ?_
              refine ev_istore_n dX6_day_79 (by decide) rfl ?_
              refine ev_iinc dX6_day_80 rfl (by decide) rfl ?_
              refine ev_goto (tgt := 17) dX6_day_83 (by decide) ?_
              rw [hx, srow_up, r1_up (by omega)]
              have l := ih (k + 1)
              rw [eS] at l
              exact l _ rfl rfl rfl (by omega)
            refine ev_aload_n dX6_day_36 rfl ?_
            refine ev_getr 0 dX6_day_37 rfl rfl flX6_7 iwX6 (by decide) rfl ?_
            refine ev_iconst dX6_day_40 ?_
            refine ev_iload_n dX6_day_41 rfl ?_
            refine ev_iadd dX6_day_42 ?_
            refine ev_iald dX6_day_43 rfl (by omega) ?_
            refine ev_iconst dX6_day_44 ?_
            refine ev_icmp_ge (tgt := 59) dX6_day_45 (by decide) (by omega) (by omega) (fun c45 => ?_) (fun c45 => ?_)
            · refine ev_iconst dX6_day_59 ?_
              exact J 2 (by omega)
            · refine ev_aload_n dX6_day_48 rfl ?_
              refine ev_getr 0 dX6_day_49 rfl rfl flX6_7 iwX6 (by decide) rfl ?_
              refine ev_iconst dX6_day_52 ?_
              refine ev_iload_n dX6_day_53 rfl ?_
              refine ev_iadd dX6_day_54 ?_
              refine ev_iald dX6_day_55 rfl (by omega) ?_
              refine ev_goto (tgt := 60) dX6_day_56 (by decide) ?_
              exact J _ (by omega)
    refine ev_iconst dX6_day_15 ?_
    refine ev_istore_n dX6_day_16 (by decide) rfl ?_
    have l := first nc 0 [(0, vR 46), (1, vI 0), (2, vI 0)] rfl rfl rfl (by omega)
    have er : srow ω 47 (r1 f (eatc F W 0).1) = ω := by
      funext a i
      by_cases e : a = 47
      · subst e
        rw [srow_at, e47]
        show r1 f W i = f i
        unfold r1
        by_cases q : 4 ≤ i ∧ i < 52
        · rw [if_pos q, ← hW]
          show f (4 + (i - 4)) = f i
          rw [show 4 + (i - 4) = i by omega]
        · rw [if_neg q]
      · rw [srow_ne e]
    rw [er] at l
    exact l
  refine ev_iconst dX6_day_0 ?_
  refine ev_istore_n dX6_day_1 (by decide) rfl ?_
  refine ev_aload_n dX6_day_2 rfl ?_
  refine ev_getr 0 dX6_day_3 rfl rfl flX6_7 iwX6 (by decide) rfl ?_
  refine ev_iconst dX6_day_6 ?_
  refine ev_iald dX6_day_7 rfl (by omega) ?_
  refine ev_if_le (tgt := 15) dX6_day_8 (by decide) (by omega) (fun c8 => ?_) (fun c8 => ?_)
  · exact main σ _ rfl rfl (fun a _ => rfl) (fun z => absurd c8 (by omega))
  · refine ev_aload_n dX6_day_11 rfl ?_
    refine ev_callV (c_X6_fearsNow H ha) okX6_fearsNow dX6_day_12 mlX6_155 rfl rfl ⟨by decide, by decide⟩ rfl (Nat.le_of_ble_eq_true rfl) (fun r12 τ12 h12 => ?_)
    obtain ⟨rfl, g1, g2⟩ := h12
    exact main τ12 _ rfl rfl g2 (fun _ => g1)
