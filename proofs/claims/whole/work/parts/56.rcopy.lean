/-! the model's copies and laying -/
def mvM (σ : ev_M) (f n : Int) : ev_M := fun a i => if a = 59 ∧ 0 ≤ i ∧ i < n then σ 58 (f + i) else σ a i
def cpM (σ : ev_M) (f g n : Int) : ev_M := fun a i => if a = 58 ∧ g ≤ i ∧ i < g + n then σ 58 (f + (i - g)) else σ a i
theorem mvM_s {σ : ev_M} {f n : Int} (h : 0 ≤ n) : mup (mvM σ f n) 59 n (σ 58 (f + n)) = mvM σ f (n + 1) := by
  funext a i
  unfold mup mvM
  by_cases e : a = 59 ∧ i = n
  · rw [if_pos e, if_pos (by omega), e.2]
  · rw [if_neg e]
    by_cases w : a = 59 ∧ 0 ≤ i ∧ i < n
    · rw [if_pos w, if_pos (by omega)]
    · rw [if_neg w, if_neg (by omega)]
theorem mvM_ne {σ : ev_M} {f n : Int} {a : Nat} (h : a ≠ 59) : mvM σ f n a = σ a := by funext i; unfold mvM; rw [if_neg (fun w => h w.1)]
theorem mvM_0 {σ : ev_M} {f : Int} : mvM σ f 0 = σ := by funext a i; unfold mvM; rw [if_neg (by omega)]
def cqM (υ : ev_M) (g n : Int) : ev_M := fun a i => if a = 58 ∧ g ≤ i ∧ i < g + n then υ 59 (i - g) else υ a i
theorem cqM_s {υ : ev_M} {g n : Int} (h : 0 ≤ n) : mup (cqM υ g n) 58 (g + n) (υ 59 n) = cqM υ g (n + 1) := by
  funext a i
  unfold mup cqM
  by_cases e : a = 58 ∧ i = g + n
  · rw [if_pos e, if_pos (by omega), show i - g = n by omega]
  · rw [if_neg e]
    by_cases w : a = 58 ∧ g ≤ i ∧ i < g + n
    · rw [if_pos w, if_pos (by omega)]
    · rw [if_neg w, if_neg (by omega)]
theorem cqM_ne {υ : ev_M} {g n : Int} {a : Nat} (h : a ≠ 58) : cqM υ g n a = υ a := by funext i; unfold cqM; rw [if_neg (fun w => h w.1)]
theorem cqM_0 {υ : ev_M} {g : Int} : cqM υ g 0 = υ := by funext a i; unfold cqM; rw [if_neg (by omega)]
theorem c_X6_copy {b : ev_B} {σ : ev_M} {s f t g n : Int} (HS : okSR σ) (ha : σ 46 6 = 0) (h1 : (-2147483648 ≤ s ∧ s < 2147483648)) (h2 : (-2147483648 ≤ f ∧ f < 2147483648)) (h3 : (-2147483648 ≤ t ∧ t < 2147483648)) (h4 : (-2147483648 ≤ g ∧ g < 2147483648)) (h5 : (-2147483648 ≤ n ∧ n < 2147483648)) : Cl b mX6_copy [vR 46, vI s, vI f, vI t, vI g, vI n] σ (RP σ (sc_copy (prj σ) s f t g n)) := by
  refine ev_enter okX6_copy.1 (Nat.le_of_ble_eq_true rfl) ?_
  unfold sc_copy
  have main : (0 ≤ s ∧ s ≤ 3) → (0 ≤ t ∧ t ≤ 3) → (0 ≤ f ∧ 0 ≤ n ∧ n ≤ σ 57 s - f) → (0 ≤ g ∧ 0 ≤ n ∧ n ≤ σ 57 t - g) → Ev b mX6_copy 117 [(0, vR 46), (1, vI s), (2, vI f), (3, vI t), (4, vI g), (5, vI n)] [] σ (RP σ (n, mcp (prj σ) (ev_rt s.toNat + 1) f (ev_rt t.toNat + 1) g n)) := by
    intro hs ht hf hg
    have q1 := (HS s hs).2.1
    have q2 := (HS t ht).2.1
    have second : ∀ (m k : Nat), (k : Int) + m = n → Ev b mX6_copy 157 [(0, vR 46), (1, vI s), (2, vI f), (3, vI t), (4, vI g), (5, vI n), (6, vI k)] [] (cqM (mvM σ (40 * s + f) n) (40 * t + g) k) (RP σ (n, mcp (prj σ) (ev_rt s.toNat + 1) f (ev_rt t.toNat + 1) g n)) := by
      intro m
      induction m with
      | zero =>
        intro k h
        have ek : (k : Int) = n := by omega
        refine ev_iload dX6_copy_157 rfl ?_
        refine ev_iload dX6_copy_159 rfl ?_
        refine ev_icmp_ge (tgt := 192) dX6_copy_161 (by decide) (by omega) (by omega) (fun c161 => ?_) (fun c161 => ?_)
        · refine ev_iload dX6_copy_192 rfl ?_
          refine ev_iret dX6_copy_194 rfl rfl ?_
          rw [ek]
          have wa : ∀ a : Nat, a ≠ 58 → a ≠ 59 → cqM (mvM σ (40 * s + f) n) (40 * t + g) n a = σ a := fun a x1 x2 => by rw [cqM_ne x1, mvM_ne x2]
          refine ⟨rfl, REL_sheet (σ := σ) ht (fun a x1 x2 => ?_) (by rw [wa 46 (by decide) (by decide)]) (by rw [wa 46 (by decide) (by decide)]) (by rw [wa 47 (by decide) (by decide)]; exact eqP_rf) (fun a hx => wa a (by omega) (by omega)) (fun x hx => by rw [wa 56 (by decide) (by decide)]) (fun x hx => by rw [wa 57 (by decide) (by decide)]) (fun x hx => ?_) ?_ ?_ (fun i hi => ?_), fun a hx => wa a (by omega) (by omega), by rw [wa 46 (by decide) (by decide)]; exact ha⟩
          · exact mcp_ne x2
          · unfold cqM; rw [if_neg (by omega), mvM_ne (by decide)]
          · show mcp (prj σ) (ev_rt s.toNat + 1) f (ev_rt t.toNat + 1) g n (ev_rt t.toNat) 1 = _
            rw [mcp_ne (by omega), wa 56 (by decide) (by decide), pS1 ht]
          · show mcp (prj σ) (ev_rt s.toNat + 1) f (ev_rt t.toNat + 1) g n (ev_rt t.toNat) 2 = _
            rw [mcp_ne (by omega), wa 57 (by decide) (by decide), pS2 ht]
          · show mcp (prj σ) (ev_rt s.toNat + 1) f (ev_rt t.toNat + 1) g n (ev_rt t.toNat + 1) i = _
            unfold mcp cqM
            by_cases w : g ≤ i ∧ i < g + n
            · rw [if_pos ⟨rfl, w⟩, if_pos (by omega), pS3 hs]
              unfold mvM
              rw [if_pos (by omega)]
              congr 1
              omega
            · rw [if_neg (fun z => w z.2), if_neg (by omega), mvM_ne (by decide), pS3 ht]
        · exact absurd c161 (by omega)
      | succ m ih =>
        intro k h
        refine ev_iload dX6_copy_157 rfl ?_
        refine ev_iload dX6_copy_159 rfl ?_
        refine ev_icmp_ge (tgt := 192) dX6_copy_161 (by decide) (by omega) (by omega) (fun c161 => ?_) (fun c161 => ?_)
        · exact absurd c161 (by omega)
        · refine ev_aload_n dX6_copy_164 rfl ?_
          refine ev_getr 18 dX6_copy_165 rfl rfl flX6_43 iwX6 (by decide) rfl ?_
          refine ev_bipush dX6_copy_168 (by decide) ?_
          refine ev_iload_n dX6_copy_170 rfl ?_
          refine ev_imul dX6_copy_171 ?_
          refine ev_iload dX6_copy_172 rfl ?_
          refine ev_iadd dX6_copy_174 ?_
          refine ev_iload dX6_copy_175 rfl ?_
          refine ev_iadd dX6_copy_177 ?_
          refine ev_aload_n dX6_copy_178 rfl ?_
          refine ev_getr 19 dX6_copy_179 rfl rfl flX6_47 iwX6 (by decide) rfl ?_
          refine ev_iload dX6_copy_182 rfl ?_
          refine ev_lald dX6_copy_184 rfl (by omega) ?_
          refine ev_last dX6_copy_185 rfl (by omega) ?_
          refine ev_iinc dX6_copy_186 rfl (by decide) rfl ?_
          refine ev_goto (tgt := 157) dX6_copy_189 (by decide) ?_
          rw [cqM_ne (a := 59) (by decide), cqM_s (by omega)]
          exact ih (k + 1) (by omega)
    have first : ∀ (m k : Nat), (k : Int) + m = n → Ev b mX6_copy 120 [(0, vR 46), (1, vI s), (2, vI f), (3, vI t), (4, vI g), (5, vI n), (6, vI k)] [] (mvM σ (40 * s + f) k) (RP σ (n, mcp (prj σ) (ev_rt s.toNat + 1) f (ev_rt t.toNat + 1) g n)) := by
      intro m
      induction m with
      | zero =>
        intro k h
        have ek : (k : Int) = n := by omega
        refine ev_iload dX6_copy_120 rfl ?_
        refine ev_iload dX6_copy_122 rfl ?_
        refine ev_icmp_ge (tgt := 154) dX6_copy_124 (by decide) (by omega) (by omega) (fun c124 => ?_) (fun c124 => ?_)
        · refine ev_iconst dX6_copy_154 ?_
          refine ev_istore dX6_copy_155 (by decide) rfl ?_
          rw [ek]
          have l := second n.toNat 0 (by omega)
          rw [show ((0 : Nat) : Int) = 0 from rfl, cqM_0] at l
          exact l
        · exact absurd c124 (by omega)
      | succ m ih =>
        intro k h
        refine ev_iload dX6_copy_120 rfl ?_
        refine ev_iload dX6_copy_122 rfl ?_
        refine ev_icmp_ge (tgt := 154) dX6_copy_124 (by decide) (by omega) (by omega) (fun c124 => ?_) (fun c124 => ?_)
        · exact absurd c124 (by omega)
        · refine ev_aload_n dX6_copy_127 rfl ?_
          refine ev_getr 19 dX6_copy_128 rfl rfl flX6_47 iwX6 (by decide) rfl ?_
          refine ev_iload dX6_copy_131 rfl ?_
          refine ev_aload_n dX6_copy_133 rfl ?_
          refine ev_getr 18 dX6_copy_134 rfl rfl flX6_43 iwX6 (by decide) rfl ?_
          refine ev_bipush dX6_copy_137 (by decide) ?_
          refine ev_iload_n dX6_copy_139 rfl ?_
          refine ev_imul dX6_copy_140 ?_
          refine ev_iload_n dX6_copy_141 rfl ?_
          refine ev_iadd dX6_copy_142 ?_
          refine ev_iload dX6_copy_143 rfl ?_
          refine ev_iadd dX6_copy_145 ?_
          refine ev_lald dX6_copy_146 rfl (by omega) ?_
          refine ev_last dX6_copy_147 rfl (by omega) ?_
          refine ev_iinc dX6_copy_148 rfl (by decide) rfl ?_
          refine ev_goto (tgt := 120) dX6_copy_151 (by decide) ?_
          rw [mvM_ne (a := 58) (by decide), mvM_s (by omega)]
          exact ih (k + 1) (by omega)
    refine ev_iconst dX6_copy_117 ?_
    refine ev_istore dX6_copy_118 (by decide) rfl ?_
    have l := first n.toNat 0 (by omega)
    rw [show ((0 : Nat) : Int) = 0 from rfl, mvM_0] at l
    exact l
  refine ev_iload_n dX6_copy_0 rfl ?_
  refine ev_Sbeq (tgt := 14) (c_X6_isOne (by omega)) okX6_isOne dX6_copy_1 mlX6_313 ⟨by decide, by decide⟩ rfl (Nat.le_of_ble_eq_true rfl) dX6_copy_4 (by decide) (fun c1 => ?_) (fun c1 => ?_)
  · rw [if_pos (by omega)]
    refine ev_aload_n dX6_copy_14 rfl ?_
    refine ev_ldc (z := -1000000001) dX6_copy_15 kcX6_50 (by decide) ?_
    refine ev_V1 (c_X6_finds (by omega)) okX6_finds dX6_copy_17 mlX6_101 rfl rfl ⟨by decide, by decide⟩ rfl (Nat.le_of_ble_eq_true rfl) ?_
    refine ev_iret dX6_copy_20 rfl rfl ?_
    exact RP_fnd ha
  · refine ev_iload_n dX6_copy_7 rfl ?_
    refine ev_Sbne (tgt := 21) (c_X6_isOne (by omega)) okX6_isOne dX6_copy_8 mlX6_313 ⟨by decide, by decide⟩ rfl (Nat.le_of_ble_eq_true rfl) dX6_copy_11 (by decide) (fun c8 => ?_) (fun c8 => ?_)
    · rw [if_neg (by omega), pS1 c1, pS1 c8, pS2 c1, pS2 c8]
      have q1 := HS s c1
      have q2 := HS t c8
      have z1 := q1.2.1
      have z2 := q2.2.1
      have w1 := q1.1
      have w2 := q2.1
      have ub : ¬ ((0 ≤ f ∧ 0 ≤ n ∧ n ≤ σ 57 s - f) ∧ (0 ≤ g ∧ 0 ≤ n ∧ n ≤ σ 57 t - g)) → Ev b mX6_copy 110 [(0, vR 46), (1, vI s), (2, vI f), (3, vI t), (4, vI g), (5, vI n)] [] σ (RP σ (if ¬ ((0 ≤ f ∧ 0 ≤ n ∧ n ≤ σ 57 s - f) ∧ (0 ≤ g ∧ 0 ≤ n ∧ n ≤ σ 57 t - g)) then (-1000000001, fnd (prj σ) 0) else (n, mcp (prj σ) (ev_rt s.toNat + 1) f (ev_rt t.toNat + 1) g n))) := by
        intro z
        rw [if_pos z]
        refine ev_aload_n dX6_copy_110 rfl ?_
        refine ev_ldc (z := -1000000001) dX6_copy_111 kcX6_50 (by decide) ?_
        refine ev_V1 (c_X6_finds (by omega)) okX6_finds dX6_copy_113 mlX6_101 rfl rfl ⟨by decide, by decide⟩ rfl (Nat.le_of_ble_eq_true rfl) ?_
        refine ev_iret dX6_copy_116 rfl rfl ?_
        exact RP_fnd ha
      have late : Ev b mX6_copy 69 [(0, vR 46), (1, vI s), (2, vI f), (3, vI t), (4, vI g), (5, vI n)] [] σ (RP σ (if ¬ ((0 ≤ f ∧ 0 ≤ n ∧ n ≤ σ 57 s - f) ∧ (0 ≤ g ∧ 0 ≤ n ∧ n ≤ σ 57 t - g)) then (-1000000001, fnd (prj σ) 0) else (n, mcp (prj σ) (ev_rt s.toNat + 1) f (ev_rt t.toNat + 1) g n))) := by
        refine ev_iload_n dX6_copy_69 rfl ?_
        refine ev_if_lt (tgt := 110) dX6_copy_70 (by decide) (by omega) (fun c70 => ?_) (fun c70 => ?_)
        · exact ub (by omega)
        · refine ev_iload dX6_copy_73 rfl ?_
          refine ev_if_lt (tgt := 110) dX6_copy_75 (by decide) (by omega) (fun c75 => ?_) (fun c75 => ?_)
          · exact ub (by omega)
          · refine ev_iload dX6_copy_78 rfl ?_
            refine ev_if_lt (tgt := 110) dX6_copy_80 (by decide) (by omega) (fun c80 => ?_) (fun c80 => ?_)
            · exact ub (by omega)
            · refine ev_iload dX6_copy_83 rfl ?_
              refine ev_aload_n dX6_copy_85 rfl ?_
              refine ev_getr 17 dX6_copy_86 rfl rfl flX6_40 iwX6 (by decide) rfl ?_
              refine ev_iload_n dX6_copy_89 rfl ?_
              refine ev_iald dX6_copy_90 rfl (by omega) ?_
              refine ev_iload_n dX6_copy_91 rfl ?_
              refine ev_isub dX6_copy_92 ?_
              refine ev_icmp_gt (tgt := 110) dX6_copy_93 (by decide) (by omega) (by omega) (fun c93 => ?_) (fun c93 => ?_)
              · exact ub (by omega)
              · refine ev_iload dX6_copy_96 rfl ?_
                refine ev_aload_n dX6_copy_98 rfl ?_
                refine ev_getr 17 dX6_copy_99 rfl rfl flX6_40 iwX6 (by decide) rfl ?_
                refine ev_iload_n dX6_copy_102 rfl ?_
                refine ev_iald dX6_copy_103 rfl (by omega) ?_
                refine ev_iload dX6_copy_104 rfl ?_
                refine ev_isub dX6_copy_106 ?_
                refine ev_icmp_le (tgt := 117) dX6_copy_107 (by decide) (by omega) (by omega) (fun c107 => ?_) (fun c107 => ?_)
                · rw [if_neg (by omega)]
                  exact main c1 c8 (by omega) (by omega)
                · exact ub (by omega)
      refine ev_aload_n dX6_copy_21 rfl ?_
      refine ev_getr 16 dX6_copy_22 rfl rfl flX6_37 iwX6 (by decide) rfl ?_
      refine ev_iload_n dX6_copy_25 rfl ?_
      refine ev_iald dX6_copy_26 rfl (by omega) ?_
      refine ev_if_eq (tgt := 39) dX6_copy_27 (by decide) (by omega) (fun c27 => ?_) (fun c27 => ?_)
      · rw [if_pos (by omega)]
        refine ev_aload_n dX6_copy_39 rfl ?_
        refine ev_ldcw (z := -1000000006) dX6_copy_40 kcX6_317 (by decide) ?_
        refine ev_V1 (c_X6_finds (by omega)) okX6_finds dX6_copy_43 mlX6_101 rfl rfl ⟨by decide, by decide⟩ rfl (Nat.le_of_ble_eq_true rfl) ?_
        refine ev_iret dX6_copy_46 rfl rfl ?_
        exact RP_fnd ha
      · refine ev_aload_n dX6_copy_30 rfl ?_
        refine ev_getr 16 dX6_copy_31 rfl rfl flX6_37 iwX6 (by decide) rfl ?_
        refine ev_iload_n dX6_copy_34 rfl ?_
        refine ev_iald dX6_copy_35 rfl (by omega) ?_
        refine ev_if_ne (tgt := 47) dX6_copy_36 (by decide) (by omega) (fun c36 => ?_) (fun c36 => ?_)
        · rw [if_neg (by omega)]
          refine ev_aload_n dX6_copy_47 rfl ?_
          refine ev_getr 16 dX6_copy_48 rfl rfl flX6_37 iwX6 (by decide) rfl ?_
          refine ev_iload_n dX6_copy_51 rfl ?_
          refine ev_iald dX6_copy_52 rfl (by omega) ?_
          refine ev_aload_n dX6_copy_53 rfl ?_
          refine ev_getr 16 dX6_copy_54 rfl rfl flX6_37 iwX6 (by decide) rfl ?_
          refine ev_iload_n dX6_copy_57 rfl ?_
          refine ev_iald dX6_copy_58 rfl (by omega) ?_
          refine ev_icmp_eq (tgt := 69) dX6_copy_59 (by decide) (by omega) (by omega) (fun c59 => ?_) (fun c59 => ?_)
          · rw [if_neg (by omega)]
            exact late
          · rw [if_pos (by omega)]
            refine ev_aload_n dX6_copy_62 rfl ?_
            refine ev_ldc (z := -1000000003) dX6_copy_63 kcX6_139 (by decide) ?_
            refine ev_V1 (c_X6_finds (by omega)) okX6_finds dX6_copy_65 mlX6_101 rfl rfl ⟨by decide, by decide⟩ rfl (Nat.le_of_ble_eq_true rfl) ?_
            refine ev_iret dX6_copy_68 rfl rfl ?_
            exact RP_fnd ha
        · rw [if_pos (by omega)]
          refine ev_aload_n dX6_copy_39 rfl ?_
          refine ev_ldcw (z := -1000000006) dX6_copy_40 kcX6_317 (by decide) ?_
          refine ev_V1 (c_X6_finds (by omega)) okX6_finds dX6_copy_43 mlX6_101 rfl rfl ⟨by decide, by decide⟩ rfl (Nat.le_of_ble_eq_true rfl) ?_
          refine ev_iret dX6_copy_46 rfl rfl ?_
          exact RP_fnd ha
    · rw [if_pos (by omega)]
      refine ev_aload_n dX6_copy_14 rfl ?_
      refine ev_ldc (z := -1000000001) dX6_copy_15 kcX6_50 (by decide) ?_
      refine ev_V1 (c_X6_finds (by omega)) okX6_finds dX6_copy_17 mlX6_101 rfl rfl ⟨by decide, by decide⟩ rfl (Nat.le_of_ble_eq_true rfl) ?_
      refine ev_iret dX6_copy_20 rfl rfl ?_
      exact RP_fnd ha
