/-! the model's tokens -/
theorem ev_lwrap {b : ev_B} {y : ev_Y} {pc : Nat} {ls : List (Nat × ev_V)} {st : List ev_V} {σ : ev_M} {Q : Option ev_V → ev_M → Prop} {z : Int} (k : Ev b y pc ls (vL (Int64.ofInt z).toInt :: st) σ Q) : Ev b y pc ls (vL z :: st) σ Q := by
  intro p l e s m args below meth c H locs cells slots A Z lsA C E hP hS hl
  have q := k p l e s m args below meth c H locs cells slots A Z lsA C E hP hS hl
  have ee : ev_cv b (vL (Int64.ofInt z).toInt) = ev_cv b (vL z) := by
    show Value.long (Int64.ofInt (Int64.ofInt z).toInt) = Value.long (Int64.ofInt z)
    rw [Int64.ofInt_toInt]
  rw [List.map_cons, ee] at q
  rw [List.map_cons]
  exact q
def okTR (σ : ev_M) : Prop := (0 ≤ σ 46 11 ∧ σ 46 11 ≤ 120) ∧ ∀ i : Int, 0 ≤ i ∧ i < σ 46 11 → 0 ≤ σ 55 i ∧ σ 55 i ≤ 255
def bAt (B : Int → Int) (L k : Int) : Int := if k < L then B k else -1
theorem c_X6_byteAt {b : ev_B} {σ : ev_M} {k : Int} (h : 0 ≤ k ∧ k ≤ 120) (ht : 0 ≤ σ 46 11 ∧ σ 46 11 ≤ 120) : CF b mX6_byteAt [vR 46, vI k] σ (some (vI (bAt (σ 55) (σ 46 11) k))) σ := by
  refine ev_enter okX6_byteAt.1 (Nat.le_of_ble_eq_true rfl) ?_
  unfold bAt
  refine ev_iload_n dX6_byteAt_0 rfl ?_
  refine ev_aload_n dX6_byteAt_1 rfl ?_
  refine ev_geti 11 11 dX6_byteAt_2 rfl rfl flX6_211 iwX6 (by decide) rfl rfl ?_
  refine ev_icmp_ge (tgt := 17) dX6_byteAt_5 (by decide) (by omega) (by omega) (fun c5 => ?_) (fun c5 => ?_)
  · rw [if_neg (by omega)]
    refine ev_iconst dX6_byteAt_17 ?_
    refine ev_iret dX6_byteAt_18 rfl rfl ?_
    exact ⟨rfl, rfl⟩
  · rw [if_pos (by omega)]
    refine ev_aload_n dX6_byteAt_8 rfl ?_
    refine ev_getr 10 dX6_byteAt_9 rfl rfl flX6_34 iwX6 (by decide) rfl ?_
    refine ev_iload_n dX6_byteAt_12 rfl ?_
    refine ev_iald dX6_byteAt_13 rfl (by omega) ?_
    refine ev_goto (tgt := 18) dX6_byteAt_14 (by decide) ?_
    refine ev_iret dX6_byteAt_18 rfl rfl ?_
    exact ⟨rfl, rfl⟩
theorem c_X6_isLetter {b : ev_B} {σ : ev_M} {c : Int} (hc : (-2147483648 ≤ c ∧ c < 2147483648)) : CF b mX6_isLetter [vI c] σ (some (vI (if isLt c = true then 1 else 0))) σ := by
  refine ev_enter okX6_isLetter.1 (Nat.le_of_ble_eq_true rfl) ?_
  refine ev_iload_n dX6_isLetter_0 rfl ?_
  refine ev_i2l dX6_isLetter_1 (by omega) ?_
  refine ev_ldc2 (z := 97) dX6_isLetter_2 klX6_214 (by decide) ?_
  refine ev_ldc2 (z := 122) dX6_isLetter_5 klX6_216 (by decide) ?_
  refine ev_S1 (c_X6_in (by omega) (by omega) (by omega)) okX6_in dX6_isLetter_8 mlX6_53 ⟨by decide, by decide⟩ rfl (Nat.le_of_ble_eq_true rfl) ?_
  refine ev_iret dX6_isLetter_11 rfl (by first | rfl | exact ev_nb) ?_
  refine ⟨?_, rfl⟩
  unfold isLt
  by_cases h : 97 ≤ c ∧ c ≤ 122
  · rw [if_pos h, if_pos (decide_eq_true h)]
  · rw [if_neg h, if_neg (by rw [decide_eq_true_eq]; exact h)]
theorem c_X6_isDigit {b : ev_B} {σ : ev_M} {c : Int} (hc : (-2147483648 ≤ c ∧ c < 2147483648)) : CF b mX6_isDigit [vI c] σ (some (vI (if isDg c = true then 1 else 0))) σ := by
  refine ev_enter okX6_isDigit.1 (Nat.le_of_ble_eq_true rfl) ?_
  refine ev_iload_n dX6_isDigit_0 rfl ?_
  refine ev_i2l dX6_isDigit_1 (by omega) ?_
  refine ev_ldc2 (z := 48) dX6_isDigit_2 klX6_218 (by decide) ?_
  refine ev_ldc2 (z := 57) dX6_isDigit_5 klX6_220 (by decide) ?_
  refine ev_S1 (c_X6_in (by omega) (by omega) (by omega)) okX6_in dX6_isDigit_8 mlX6_53 ⟨by decide, by decide⟩ rfl (Nat.le_of_ble_eq_true rfl) ?_
  refine ev_iret dX6_isDigit_11 rfl (by first | rfl | exact ev_nb) ?_
  refine ⟨?_, rfl⟩
  unfold isDg
  by_cases h : 48 ≤ c ∧ c ≤ 57
  · rw [if_pos h, if_pos (decide_eq_true h)]
  · rw [if_neg h, if_neg (by rw [decide_eq_true_eq]; exact h)]
theorem bAt_bd {σ : ev_M} {k : Int} (HT : okTR σ) (h : 0 ≤ k) : -2147483648 ≤ bAt (σ 55) (σ 46 11) k ∧ bAt (σ 55) (σ 46 11) k < 2147483648 := by
  unfold bAt
  split
  · have := HT.2 k (by omega); omega
  · omega
def mR (σ : ev_M) (f t : Int) : ev_M := mup (mup σ 46 12 f) 46 13 t
theorem c_X6_token {b : ev_B} {σ : ev_M} (HT : okTR σ) (h4 : 0 ≤ σ 46 13 ∧ σ 46 13 ≤ σ 46 11) : CF b mX6_token [vR 46] σ none (mR σ (tk (σ 55) (σ 46 11) (σ 46 13)).2.1 (tk (σ 55) (σ 46 11) (σ 46 13)).2.2) := by
  refine ev_enter okX6_token.1 (Nat.le_of_ble_eq_true rfl) ?_
  have t1 := HT.1
  generalize hB : σ 55 = B at *
  generalize hL : σ 46 11 = L at *
  have bB : ∀ k : Int, 0 ≤ k → (-2147483648 ≤ bAt B L k ∧ bAt B L k < 2147483648) := fun k hk => by have := bAt_bd HT hk; rw [hB, hL] at this; exact this
  have fin : ∀ s : Int, 0 ≤ s ∧ s ≤ L → Ev b mX6_token 34 [(0, vR 46)] [] (mup σ 46 12 s) (fun r τ => r = none ∧ τ = mR σ (tkAt B L s).2.1 (tkAt B L s).2.2) := by
    intro s hs
    have e12 : mup σ 46 12 s 46 12 = s := mup_at
    have e11 : mup σ 46 12 s 46 11 = L := by rw [mup_off (by decide)]; exact hL
    have e55 : mup σ 46 12 s 55 = B := by rw [mup_ne (by decide)]; exact hB
    have bs := bB s (by omega)
    have isl : isLt (bAt B L s) = true ↔ s < L ∧ isLt (B s) = true := by
      unfold bAt
      by_cases z : s < L
      · rw [if_pos z]; exact ⟨fun q => ⟨z, q⟩, fun q => q.2⟩
      · rw [if_neg z]; exact ⟨fun q => absurd q (by decide), fun q => absurd q.1 z⟩
    have isd : isDg (bAt B L s) = true ↔ s < L ∧ isDg (B s) = true := by
      unfold bAt
      by_cases z : s < L
      · rw [if_pos z]; exact ⟨fun q => ⟨z, q⟩, fun q => q.2⟩
      · rw [if_neg z]; exact ⟨fun q => absurd q (by decide), fun q => absurd q.1 z⟩
    generalize hw : (if isLt (bAt B L s) = true then (1 : Int) else 0) = w
    generalize hd : (if isDg (bAt B L s) = true then (1 : Int) else 0) = d
    have loop : ∀ (m : Nat) (q : Int), 0 ≤ q ∧ q ≤ L → (L - q).toNat = m → Ev b mX6_token 86 [(0, vR 46), (1, vI w), (2, vI d)] [] (mR σ s q) (fun r τ => r = none ∧ τ = mR σ s (if isLt (bAt B L s) = true then run isLt B L q else if isDg (bAt B L s) = true then run isDg B L q else q)) := by
      intro m
      induction m with
      | zero =>
        intro q hq hm
        have g13 : mR σ s q 46 13 = q := mup_at
        have g11 : mR σ s q 46 11 = L := by unfold mR; rw [mup_off (by decide), mup_off (by decide)]; exact hL
        have g55 : mR σ s q 55 = B := by unfold mR; rw [mup_ne (by decide), mup_ne (by decide)]; exact hB
        have bq := bB q (by omega)
        have bm : bAt B L q = -1 := by unfold bAt; rw [if_neg (by omega)]
        have r1 : run isLt B L q = q := run_end (by omega)
        have r2 : run isDg B L q = q := run_end (by omega)
        rw [r1, r2]
        have e : (if isLt (bAt B L s) = true then q else if isDg (bAt B L s) = true then q else q) = q := by
          repeat' split
          all_goals rfl
        rw [e]
        have stop2 : Ev b mX6_token 104 [(0, vR 46), (1, vI w), (2, vI d)] [] (mR σ s q) (fun r τ => r = none ∧ τ = mR σ s q) := by
          have db : d = 0 ∨ d = 1 := by rw [← hd]; split <;> simp
          refine ev_iload_n dX6_token_104 rfl ?_
          refine ev_if_eq (tgt := 135) dX6_token_105 (by decide) (by omega) (fun c105 => ?_) (fun c105 => ?_)
          · refine ev_vret dX6_token_135 rfl ?_
            exact ⟨rfl, rfl⟩
          · refine ev_aload_n dX6_token_108 rfl ?_
            refine ev_aload_n dX6_token_109 rfl ?_
            refine ev_geti 13 13 dX6_token_110 rfl rfl flX6_222 iwX6 (by decide) rfl rfl ?_
            rw [g13]
            refine ev_V1 (c_X6_byteAt (by omega) (by rw [g11]; omega)) okX6_byteAt dX6_token_113 mlX6_228 rfl rfl ⟨by decide, by decide⟩ rfl (Nat.le_of_ble_eq_true rfl) ?_
            rw [g55, g11]
            refine ev_Sbeq (tgt := 135) (c_X6_isDigit bq) okX6_isDigit dX6_token_116 mlX6_234 ⟨by decide, by decide⟩ rfl (Nat.le_of_ble_eq_true rfl) dX6_token_119 (by decide) (fun c116 => ?_) (fun c116 => ?_)
            · refine ev_vret dX6_token_135 rfl ?_
              exact ⟨rfl, rfl⟩
            · rw [bm] at c116; exact absurd c116 (by decide)
        have wb : w = 0 ∨ w = 1 := by rw [← hw]; split <;> simp
        refine ev_iload_n dX6_token_86 rfl ?_
        refine ev_if_eq (tgt := 104) dX6_token_87 (by decide) (by omega) (fun c87 => ?_) (fun c87 => ?_)
        · exact stop2
        · refine ev_aload_n dX6_token_90 rfl ?_
          refine ev_aload_n dX6_token_91 rfl ?_
          refine ev_geti 13 13 dX6_token_92 rfl rfl flX6_222 iwX6 (by decide) rfl rfl ?_
          rw [g13]
          refine ev_V1 (c_X6_byteAt (by omega) (by rw [g11]; omega)) okX6_byteAt dX6_token_95 mlX6_228 rfl rfl ⟨by decide, by decide⟩ rfl (Nat.le_of_ble_eq_true rfl) ?_
          rw [g55, g11]
          refine ev_Sbne (tgt := 122) (c_X6_isLetter bq) okX6_isLetter dX6_token_98 mlX6_231 ⟨by decide, by decide⟩ rfl (Nat.le_of_ble_eq_true rfl) dX6_token_101 (by decide) (fun c98 => ?_) (fun c98 => ?_)
          · rw [bm] at c98; exact absurd c98 (by decide)
          · exact stop2
      | succ m ih =>
        intro q hq hm
        have g13 : mR σ s q 46 13 = q := mup_at
        have g11 : mR σ s q 46 11 = L := by unfold mR; rw [mup_off (by decide), mup_off (by decide)]; exact hL
        have g55 : mR σ s q 55 = B := by unfold mR; rw [mup_ne (by decide), mup_ne (by decide)]; exact hB
        have bq := bB q (by omega)
        have bm : bAt B L q = B q := by unfold bAt; rw [if_pos (by omega)]
        have wb : w = 0 ∨ w = 1 := by rw [← hw]; split <;> simp
        have db : d = 0 ∨ d = 1 := by rw [← hd]; split <;> simp
        have ww : w = 1 ↔ isLt (bAt B L s) = true := by
          rw [← hw]
          by_cases z : isLt (bAt B L s) = true
          · rw [if_pos z]; exact ⟨fun _ => z, fun _ => rfl⟩
          · rw [if_neg z]; exact ⟨fun q => absurd q (by decide), fun q => absurd q z⟩
        have dd : d = 1 ↔ isDg (bAt B L s) = true := by
          rw [← hd]
          by_cases z : isDg (bAt B L s) = true
          · rw [if_pos z]; exact ⟨fun _ => z, fun _ => rfl⟩
          · rw [if_neg z]; exact ⟨fun q => absurd q (by decide), fun q => absurd q z⟩
        have step : ∀ Q, Ev b mX6_token 86 [(0, vR 46), (1, vI w), (2, vI d)] [] (mR σ s (q + 1)) Q → Ev b mX6_token 122 [(0, vR 46), (1, vI w), (2, vI d)] [] (mR σ s q) Q := by
          intro Q K
          refine ev_aload_n dX6_token_122 rfl ?_
          refine ev_dup dX6_token_123 rfl ?_
          refine ev_geti 13 13 dX6_token_124 rfl rfl flX6_222 iwX6 (by decide) rfl rfl ?_
          rw [g13]
          refine ev_iconst dX6_token_127 ?_
          refine ev_iadd dX6_token_128 ?_
          refine ev_put (ty := .int) 13 13 dX6_token_129 rfl rfl flX6_222 iwX6 tyX6_ok nmX6 (by decide) rfl rfl (by decide +kernel) rfl rfl rfl ?_
          refine ev_goto (tgt := 86) dX6_token_132 (by decide) ?_
          have z : mup (mR σ s q) 46 13 (q + 1) = mR σ s (q + 1) := by unfold mR; funext a i; unfold mup; split <;> rfl
          rw [z]
          exact K
        have nx := ih (q + 1) (by omega) (by omega)
        refine ev_iload_n dX6_token_86 rfl ?_
        refine ev_if_eq (tgt := 104) dX6_token_87 (by decide) (by omega) (fun c87 => ?_) (fun c87 => ?_)
        · rw [if_neg (fun z => by have := ww.mpr z; omega)] at nx ⊢
          refine ev_iload_n dX6_token_104 rfl ?_
          refine ev_if_eq (tgt := 135) dX6_token_105 (by decide) (by omega) (fun c105 => ?_) (fun c105 => ?_)
          · rw [if_neg (fun z => by have := dd.mpr z; omega)]
            refine ev_vret dX6_token_135 rfl ?_
            exact ⟨rfl, rfl⟩
          · rw [if_pos (dd.mp (by omega))] at nx ⊢
            refine ev_aload_n dX6_token_108 rfl ?_
            refine ev_aload_n dX6_token_109 rfl ?_
            refine ev_geti 13 13 dX6_token_110 rfl rfl flX6_222 iwX6 (by decide) rfl rfl ?_
            rw [g13]
            refine ev_V1 (c_X6_byteAt (by omega) (by rw [g11]; omega)) okX6_byteAt dX6_token_113 mlX6_228 rfl rfl ⟨by decide, by decide⟩ rfl (Nat.le_of_ble_eq_true rfl) ?_
            rw [g55, g11]
            refine ev_Sbeq (tgt := 135) (c_X6_isDigit bq) okX6_isDigit dX6_token_116 mlX6_234 ⟨by decide, by decide⟩ rfl (Nat.le_of_ble_eq_true rfl) dX6_token_119 (by decide) (fun c116 => ?_) (fun c116 => ?_)
            · rw [bm] at c116
              refine ev_vret dX6_token_135 rfl ?_
              rw [run_no c116]
              exact ⟨rfl, rfl⟩
            · rw [bm] at c116
              rw [← run_go (by omega) c116] at nx
              exact step _ nx
        · rw [if_pos (ww.mp (by omega))] at nx ⊢
          refine ev_aload_n dX6_token_90 rfl ?_
          refine ev_aload_n dX6_token_91 rfl ?_
          refine ev_geti 13 13 dX6_token_92 rfl rfl flX6_222 iwX6 (by decide) rfl rfl ?_
          rw [g13]
          refine ev_V1 (c_X6_byteAt (by omega) (by rw [g11]; omega)) okX6_byteAt dX6_token_95 mlX6_228 rfl rfl ⟨by decide, by decide⟩ rfl (Nat.le_of_ble_eq_true rfl) ?_
          rw [g55, g11]
          refine ev_Sbne (tgt := 122) (c_X6_isLetter bq) okX6_isLetter dX6_token_98 mlX6_231 ⟨by decide, by decide⟩ rfl (Nat.le_of_ble_eq_true rfl) dX6_token_101 (by decide) (fun c98 => ?_) (fun c98 => ?_)
          · rw [bm] at c98
            rw [← run_go (by omega) c98] at nx
            exact step _ nx
          · rw [bm] at c98
            have d0 : d = 0 := by
              have y := (isl.mp (ww.mp (by omega))).2
              rcases db with z | z
              · exact z
              · have y2 := (isd.mp (dd.mp z)).2
                unfold isLt at y
                unfold isDg at y2
                rw [decide_eq_true_eq] at y y2
                omega
            refine ev_iload_n dX6_token_104 rfl ?_
            refine ev_if_eq (tgt := 135) dX6_token_105 (by decide) (by omega) (fun c105 => ?_) (fun c105 => ?_)
            · refine ev_vret dX6_token_135 rfl ?_
              rw [run_no c98]
              exact ⟨rfl, rfl⟩
            · exact absurd d0 c105
    refine ev_aload_n dX6_token_34 rfl ?_
    refine ev_aload_n dX6_token_35 rfl ?_
    refine ev_geti 12 12 dX6_token_36 rfl rfl flX6_225 iwX6 (by decide) rfl rfl ?_
    rw [e12]
    refine ev_V1 (c_X6_byteAt (by omega) (by rw [e11]; omega)) okX6_byteAt dX6_token_39 mlX6_228 rfl rfl ⟨by decide, by decide⟩ rfl (Nat.le_of_ble_eq_true rfl) ?_
    rw [e55, e11]
    refine ev_S1 (c_X6_isLetter bs) okX6_isLetter dX6_token_42 mlX6_231 ⟨by decide, by decide⟩ rfl (Nat.le_of_ble_eq_true rfl) ?_
    rw [hw]
    refine ev_istore_n dX6_token_45 (by decide) rfl ?_
    refine ev_aload_n dX6_token_46 rfl ?_
    refine ev_aload_n dX6_token_47 rfl ?_
    refine ev_geti 12 12 dX6_token_48 rfl rfl flX6_225 iwX6 (by decide) rfl rfl ?_
    rw [e12]
    refine ev_V1 (c_X6_byteAt (by omega) (by rw [e11]; omega)) okX6_byteAt dX6_token_51 mlX6_228 rfl rfl ⟨by decide, by decide⟩ rfl (Nat.le_of_ble_eq_true rfl) ?_
    rw [e55, e11]
    refine ev_S1 (c_X6_isDigit bs) okX6_isDigit dX6_token_54 mlX6_234 ⟨by decide, by decide⟩ rfl (Nat.le_of_ble_eq_true rfl) ?_
    rw [hd]
    refine ev_istore_n dX6_token_57 (by decide) rfl ?_
    refine ev_aload_n dX6_token_58 rfl ?_
    refine ev_aload_n dX6_token_59 rfl ?_
    refine ev_geti 12 12 dX6_token_60 rfl rfl flX6_225 iwX6 (by decide) rfl rfl ?_
    rw [e12]
    refine ev_aload_n dX6_token_63 rfl ?_
    refine ev_geti 11 11 dX6_token_64 rfl rfl flX6_211 iwX6 (by decide) rfl rfl ?_
    rw [e11]
    refine ev_icmp_ge (tgt := 79) dX6_token_67 (by decide) (by omega) (by omega) (fun c67 => ?_) (fun c67 => ?_)
    · refine ev_aload_n dX6_token_79 rfl ?_
      refine ev_geti 12 12 dX6_token_80 rfl rfl flX6_225 iwX6 (by decide) rfl rfl ?_
      rw [e12]
      refine ev_put (ty := .int) 13 13 dX6_token_83 rfl rfl flX6_222 iwX6 tyX6_ok nmX6 (by decide) rfl rfl (by decide +kernel) rfl rfl rfl ?_
      have l := loop 0 s (by omega) (by omega)
      have t : (tkAt B L s).2.1 = s ∧ (tkAt B L s).2.2 = s := by unfold tkAt; rw [if_pos (by omega)]; exact ⟨rfl, rfl⟩
      rw [t.1, t.2]
      rw [if_neg (fun z => by have := (isl.mp z).1; omega), if_neg (fun z => by have := (isd.mp z).1; omega)] at l
      exact l
    · refine ev_aload_n dX6_token_70 rfl ?_
      refine ev_geti 12 12 dX6_token_71 rfl rfl flX6_225 iwX6 (by decide) rfl rfl ?_
      rw [e12]
      refine ev_iconst dX6_token_74 ?_
      refine ev_iadd dX6_token_75 ?_
      refine ev_goto (tgt := 83) dX6_token_76 (by decide) ?_
      refine ev_put (ty := .int) 13 13 dX6_token_83 rfl rfl flX6_222 iwX6 tyX6_ok nmX6 (by decide) rfl rfl (by decide +kernel) rfl rfl rfl ?_
      have l := loop (L - (s + 1)).toNat (s + 1) (by omega) rfl
      have bs2 : bAt B L s = B s := by unfold bAt; rw [if_pos (by omega)]
      rw [bs2] at l
      have t : (tkAt B L s).2.1 = s ∧ (tkAt B L s).2.2 = (if isLt (B s) = true then run isLt B L (s + 1) else if isDg (B s) = true then run isDg B L (s + 1) else s + 1) := by
        refine ⟨tkAt_s, ?_⟩
        unfold tkAt
        rw [if_neg (by omega)]
        by_cases z1 : isLt (B s) = true
        · rw [if_pos z1, if_pos z1, run_go (by omega) z1]
        · rw [if_neg z1, if_neg z1]
          by_cases z2 : isDg (B s) = true
          · rw [if_pos z2, if_pos z2, run_go (by omega) z2]
          · rw [if_neg z2, if_neg z2]
            split <;> rfl
      rw [t.1, t.2]
      exact l
  have skip : ∀ (m : Nat) (p : Int), 0 ≤ p ∧ p ≤ L → (L - p).toNat = m → Ev b mX6_token 8 [(0, vR 46)] [] (mup σ 46 12 p) (fun r τ => r = none ∧ τ = mR σ (tk B L p).2.1 (tk B L p).2.2) := by
    intro m
    induction m with
    | zero =>
      intro p hp hm
      have e12 : mup σ 46 12 p 46 12 = p := mup_at
      have e11 : mup σ 46 12 p 46 11 = L := by rw [mup_off (by decide)]; exact hL
      have e55 : mup σ 46 12 p 55 = B := by rw [mup_ne (by decide)]; exact hB
      have bm : bAt B L p = -1 := by unfold bAt; rw [if_neg (by omega)]
      refine ev_aload_n dX6_token_8 rfl ?_
      refine ev_aload_n dX6_token_9 rfl ?_
      refine ev_geti 12 12 dX6_token_10 rfl rfl flX6_225 iwX6 (by decide) rfl rfl ?_
      rw [e12]
      refine ev_V1 (c_X6_byteAt (by omega) (by rw [e11]; omega)) okX6_byteAt dX6_token_13 mlX6_228 rfl rfl ⟨by decide, by decide⟩ rfl (Nat.le_of_ble_eq_true rfl) ?_
      rw [e55, e11, bm]
      refine ev_bipush dX6_token_16 (by decide) ?_
      refine ev_icmp_ne (tgt := 34) dX6_token_18 (by decide) (by omega) (by omega) (fun c18 => ?_) (fun c18 => ?_)
      · unfold tk
        rw [run_end (by omega)]
        exact fin p hp
      · exact absurd c18 (by omega)
    | succ m ih =>
      intro p hp hm
      have e12 : mup σ 46 12 p 46 12 = p := mup_at
      have e11 : mup σ 46 12 p 46 11 = L := by rw [mup_off (by decide)]; exact hL
      have e55 : mup σ 46 12 p 55 = B := by rw [mup_ne (by decide)]; exact hB
      have bm : bAt B L p = B p := by unfold bAt; rw [if_pos (by omega)]
      have bp := bB p (by omega)
      rw [bm] at bp
      refine ev_aload_n dX6_token_8 rfl ?_
      refine ev_aload_n dX6_token_9 rfl ?_
      refine ev_geti 12 12 dX6_token_10 rfl rfl flX6_225 iwX6 (by decide) rfl rfl ?_
      rw [e12]
      refine ev_V1 (c_X6_byteAt (by omega) (by rw [e11]; omega)) okX6_byteAt dX6_token_13 mlX6_228 rfl rfl ⟨by decide, by decide⟩ rfl (Nat.le_of_ble_eq_true rfl) ?_
      rw [e55, e11, bm]
      refine ev_bipush dX6_token_16 (by decide) ?_
      refine ev_icmp_ne (tgt := 34) dX6_token_18 (by decide) (by omega) (by omega) (fun c18 => ?_) (fun c18 => ?_)
      · unfold tk
        rw [run_no (by unfold isSp; rw [decide_eq_true_eq]; exact c18)]
        exact fin p hp
      · refine ev_aload_n dX6_token_21 rfl ?_
        refine ev_dup dX6_token_22 rfl ?_
        refine ev_geti 12 12 dX6_token_23 rfl rfl flX6_225 iwX6 (by decide) rfl rfl ?_
        rw [e12]
        refine ev_iconst dX6_token_26 ?_
        refine ev_iadd dX6_token_27 ?_
        refine ev_put (ty := .int) 12 12 dX6_token_28 rfl rfl flX6_225 iwX6 tyX6_ok nmX6 (by decide) rfl rfl (by decide +kernel) rfl rfl rfl ?_
        refine ev_goto (tgt := 8) dX6_token_31 (by decide) ?_
        have z : mup (mup σ 46 12 p) 46 12 (p + 1) = mup σ 46 12 (p + 1) := by funext a i; unfold mup; split <;> rfl
        have nx := ih (p + 1) (by omega) (by omega)
        unfold tk at nx ⊢
        rw [z, run_go (by omega) (show isSp (B p) = true from decide_eq_true c18)]
        exact nx
  refine ev_aload_n dX6_token_0 rfl ?_
  refine ev_aload_n dX6_token_1 rfl ?_
  refine ev_geti 13 13 dX6_token_2 rfl rfl flX6_222 iwX6 (by decide) rfl rfl ?_
  refine ev_put (ty := .int) 12 12 dX6_token_5 rfl rfl flX6_225 iwX6 tyX6_ok nmX6 (by decide) rfl rfl (by decide +kernel) rfl rfl rfl ?_
  exact skip (L - σ 46 13).toNat (σ 46 13) h4 rfl
