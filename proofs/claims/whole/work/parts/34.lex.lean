/-! the tokens of a tape of bytes B of which L stand there -/
def isLt (c : Int) : Bool := decide (97 ≤ c ∧ c ≤ 122)
def isDg (c : Int) : Bool := decide (48 ≤ c ∧ c ≤ 57)
def isSp (c : Int) : Bool := decide (c = 32)
def runN (f : Int → Bool) (B : Int → Int) : Nat → Int → Int
  | 0, p => p
  | n + 1, p => if f (B p) = true then runN f B n (p + 1) else p
def run (f : Int → Bool) (B : Int → Int) (L p : Int) : Int := runN f B (L - p).toNat p
theorem run_go {f : Int → Bool} {B : Int → Int} {L p : Int} (h : p < L) (hf : f (B p) = true) : run f B L p = run f B L (p + 1) := by
  unfold run
  rw [show (L - p).toNat = (L - (p + 1)).toNat + 1 by omega, runN, if_pos hf]
theorem run_no {f : Int → Bool} {B : Int → Int} {L p : Int} (h : ¬ f (B p) = true) : run f B L p = p := by
  unfold run
  cases (L - p).toNat with
  | zero => rfl
  | succ n => rw [runN, if_neg h]
theorem run_end {f : Int → Bool} {B : Int → Int} {L p : Int} (h : L ≤ p) : run f B L p = p := by
  unfold run
  rw [show (L - p).toNat = 0 by omega]; rfl
theorem runN_bd {f : Int → Bool} {B : Int → Int} : ∀ (n : Nat) (p : Int), p ≤ runN f B n p ∧ runN f B n p ≤ p + n ∧ ∀ k : Int, p ≤ k ∧ k < runN f B n p → f (B k) = true
  | 0, p => by simp only [runN]; exact ⟨by omega, by omega, fun k hk => absurd hk (by omega)⟩
  | n + 1, p => by
    rw [runN]
    by_cases h : f (B p) = true
    · rw [if_pos h]
      obtain ⟨h1, h2, h3⟩ := runN_bd (f := f) (B := B) n (p + 1)
      refine ⟨by omega, by omega, fun k hk => ?_⟩
      by_cases e : k = p
      · rw [e]; exact h
      · exact h3 k (by omega)
    · rw [if_neg h]
      exact ⟨by omega, by omega, fun k hk => absurd hk (by omega)⟩
theorem run_bd {f : Int → Bool} {B : Int → Int} {L p : Int} (h : p ≤ L) : p ≤ run f B L p ∧ run f B L p ≤ L ∧ ∀ k : Int, p ≤ k ∧ k < run f B L p → f (B k) = true := by
  have := runN_bd (f := f) (B := B) (L - p).toNat p
  unfold run
  refine ⟨this.1, by omega, this.2.2⟩
/-- what stands between a and e as a number -/
def nmN (B : Int → Int) (a : Int) : Nat → Int
  | 0 => 0
  | n + 1 => min 1000 (nmN B a n * 10 + B (a + n) - 48)
def nm (B : Int → Int) (a e : Int) : Int := nmN B a (e - a).toNat
/-- the token at s: its sort, its begin, its end -/
def tkAt (B : Int → Int) (L s : Int) : Int × Int × Int := if L ≤ s then (0, s, s) else if isLt (B s) = true then (1, s, run isLt B L s) else if isDg (B s) = true then (2, s, run isDg B L s) else if B s = 59 then (3, s, s + 1) else (4, s, s + 1)
def tk (B : Int → Int) (L p : Int) : Int × Int × Int := tkAt B L (run isSp B L p)
theorem tkAt_s {B : Int → Int} {L s : Int} : (tkAt B L s).2.1 = s := by
  unfold tkAt
  repeat' split
  all_goals rfl
theorem tk_bd {B : Int → Int} {L p : Int} (h : 0 ≤ p ∧ p ≤ L) : (p ≤ (tk B L p).2.1 ∧ (tk B L p).2.1 ≤ L) ∧ ((tk B L p).2.1 ≤ (tk B L p).2.2 ∧ (tk B L p).2.2 ≤ L) ∧ ((tk B L p).1 ≠ 0 → (tk B L p).2.1 < (tk B L p).2.2) ∧ ((tk B L p).1 = 0 → (tk B L p).2.1 = L) ∧ (0 ≤ (tk B L p).1 ∧ (tk B L p).1 ≤ 4) := by
  have h1 := run_bd (f := isSp) (B := B) h.2
  unfold tk
  generalize run isSp B L p = s at h1 ⊢
  unfold tkAt
  split
  · simp only []; omega
  · split
    · rename_i h2 h3
      have h4 := run_go (B := B) (f := isLt) (L := L) (p := s) (by omega) h3
      have h5 := run_bd (f := isLt) (B := B) (L := L) (p := s + 1) (by omega)
      simp only []
      omega
    · split
      · rename_i h2 h3 h6
        have h4 := run_go (B := B) (f := isDg) (L := L) (p := s) (by omega) h6
        have h5 := run_bd (f := isDg) (B := B) (L := L) (p := s + 1) (by omega)
        simp only []
        omega
      · split
        · simp only []; omega
        · simp only []; omega
/-- the letters between a and so many on are those of a word -/
def wdN (B : Int → Int) (a : Int) (j : Nat) : Nat → Bool
  | 0 => true
  | n + 1 => wdN B a j n && decide (B (a + n) = chr j n)
theorem wdN_no {B : Int → Int} {a : Int} {j i : Nat} (h : ¬ B (a + i) = chr j i) : ∀ {n : Nat}, i < n → wdN B a j n = false
  | 0, hn => absurd hn (Nat.not_lt_zero _)
  | n + 1, hn => by
    unfold wdN
    rcases Nat.lt_or_ge i n with q | q
    · rw [wdN_no h q]; rfl
    · have e : i = n := by omega
      subst e
      simp [h]
def wd (B : Int → Int) (t : Int × Int × Int) (j : Nat) : Bool := decide (t.1 = 1 ∧ t.2.2 - t.2.1 = wln j) && wdN B t.2.1 j (wln j)
theorem c_X4_isLetter {b : ev_B} {σ : ev_M} {c : Int} (hc : (-2147483648 ≤ c ∧ c < 2147483648)) : CF b mX4_isLetter [vI c] σ (some (vI (if isLt c = true then 1 else 0))) σ := by
  refine ev_enter okX4_isLetter.1 (Nat.le_of_ble_eq_true rfl) ?_
  refine ev_iload_n dX4_isLetter_0 rfl ?_
  refine ev_bipush dX4_isLetter_1 (by decide) ?_
  refine ev_icmp_lt (tgt := 16) dX4_isLetter_3 (by decide) (by omega) (by omega) (fun c3 => ?_) (fun c3 => ?_)
  · refine ev_iconst dX4_isLetter_16 ?_
    refine ev_iret dX4_isLetter_17 rfl (by first | rfl | exact ev_nb) ?_
    exact ⟨by first | rw [if_pos (by unfold isLt; exact decide_eq_true (by omega))] | rw [if_neg (by unfold isLt; rw [decide_eq_true_eq]; omega)], rfl⟩
  · refine ev_iload_n dX4_isLetter_6 rfl ?_
    refine ev_bipush dX4_isLetter_7 (by decide) ?_
    refine ev_icmp_gt (tgt := 16) dX4_isLetter_9 (by decide) (by omega) (by omega) (fun c9 => ?_) (fun c9 => ?_)
    · refine ev_iconst dX4_isLetter_16 ?_
      refine ev_iret dX4_isLetter_17 rfl (by first | rfl | exact ev_nb) ?_
      exact ⟨by first | rw [if_pos (by unfold isLt; exact decide_eq_true (by omega))] | rw [if_neg (by unfold isLt; rw [decide_eq_true_eq]; omega)], rfl⟩
    · refine ev_iconst dX4_isLetter_12 ?_
      refine ev_goto (tgt := 17) dX4_isLetter_13 (by decide) ?_
      refine ev_iret dX4_isLetter_17 rfl (by first | rfl | exact ev_nb) ?_
      exact ⟨by first | rw [if_pos (by unfold isLt; exact decide_eq_true (by omega))] | rw [if_neg (by unfold isLt; rw [decide_eq_true_eq]; omega)], rfl⟩
theorem c_X4_isDigit {b : ev_B} {σ : ev_M} {c : Int} (hc : (-2147483648 ≤ c ∧ c < 2147483648)) : CF b mX4_isDigit [vI c] σ (some (vI (if isDg c = true then 1 else 0))) σ := by
  refine ev_enter okX4_isDigit.1 (Nat.le_of_ble_eq_true rfl) ?_
  refine ev_iload_n dX4_isDigit_0 rfl ?_
  refine ev_bipush dX4_isDigit_1 (by decide) ?_
  refine ev_icmp_lt (tgt := 16) dX4_isDigit_3 (by decide) (by omega) (by omega) (fun c3 => ?_) (fun c3 => ?_)
  · refine ev_iconst dX4_isDigit_16 ?_
    refine ev_iret dX4_isDigit_17 rfl (by first | rfl | exact ev_nb) ?_
    exact ⟨by first | rw [if_pos (by unfold isDg; exact decide_eq_true (by omega))] | rw [if_neg (by unfold isDg; rw [decide_eq_true_eq]; omega)], rfl⟩
  · refine ev_iload_n dX4_isDigit_6 rfl ?_
    refine ev_bipush dX4_isDigit_7 (by decide) ?_
    refine ev_icmp_gt (tgt := 16) dX4_isDigit_9 (by decide) (by omega) (by omega) (fun c9 => ?_) (fun c9 => ?_)
    · refine ev_iconst dX4_isDigit_16 ?_
      refine ev_iret dX4_isDigit_17 rfl (by first | rfl | exact ev_nb) ?_
      exact ⟨by first | rw [if_pos (by unfold isDg; exact decide_eq_true (by omega))] | rw [if_neg (by unfold isDg; rw [decide_eq_true_eq]; omega)], rfl⟩
    · refine ev_iconst dX4_isDigit_12 ?_
      refine ev_goto (tgt := 17) dX4_isDigit_13 (by decide) ?_
      refine ev_iret dX4_isDigit_17 rfl (by first | rfl | exact ev_nb) ?_
      exact ⟨by first | rw [if_pos (by unfold isDg; exact decide_eq_true (by omega))] | rw [if_neg (by unfold isDg; rw [decide_eq_true_eq]; omega)], rfl⟩
theorem c_X4_passLetters {b : ev_B} {σ : ev_M} (HT : okT σ) (h4 : 0 ≤ σ 34 4 ∧ σ 34 4 ≤ σ 34 1) : CF b mX4_passLetters [vR 34] σ none (mup σ 34 4 (run isLt (σ 35) (σ 34 1) (σ 34 4))) := by
  refine ev_enter okX4_passLetters.1 (Nat.le_of_ble_eq_true rfl) ?_
  obtain ⟨t1, t2⟩ := HT
  have loop : ∀ (n : Nat) (p : Int), 0 ≤ p ∧ p ≤ σ 34 1 → (σ 34 1 - p).toNat = n → Ev b mX4_passLetters 0 [(0, vR 34)] [] (mup σ 34 4 p) (fun r τ => r = none ∧ τ = mup σ 34 4 (run isLt (σ 35) (σ 34 1) p)) := by
    intro n
    induction n with
    | zero =>
      intro p h0 hn
      have e1 : mup σ 34 4 p 34 1 = σ 34 1 := by simp [mup]
      have e2 : mup σ 34 4 p 34 4 = p := by simp [mup]
      refine ev_aload_n dX4_passLetters_0 rfl ?_
      refine ev_geti 4 4 dX4_passLetters_1 rfl rfl flX4_19 iwX4 (by decide) rfl rfl ?_
      refine ev_aload_n dX4_passLetters_4 rfl ?_
      rw [e2]
      refine ev_geti 1 1 dX4_passLetters_5 rfl rfl flX4_15 iwX4 (by decide) rfl rfl ?_
      rw [e1]
      refine ev_icmp_ge (tgt := 39) dX4_passLetters_8 (by decide) (by omega) (by omega) (fun c8 => ?_) (fun c8 => ?_)
      · refine ev_vret dX4_passLetters_39 rfl ?_
        rw [run_end (by omega)]
        exact ⟨rfl, rfl⟩
      · exact absurd c8 (by omega)
    | succ n ih =>
      intro p h0 hn
      have e1 : mup σ 34 4 p 34 1 = σ 34 1 := by simp [mup]
      have e2 : mup σ 34 4 p 34 4 = p := by simp [mup]
      have e3 : mup σ 34 4 p 35 p = σ 35 p := by simp [mup]
      have bb := t2 p (by omega)
      refine ev_aload_n dX4_passLetters_0 rfl ?_
      refine ev_geti 4 4 dX4_passLetters_1 rfl rfl flX4_19 iwX4 (by decide) rfl rfl ?_
      refine ev_aload_n dX4_passLetters_4 rfl ?_
      rw [e2]
      refine ev_geti 1 1 dX4_passLetters_5 rfl rfl flX4_15 iwX4 (by decide) rfl rfl ?_
      rw [e1]
      refine ev_icmp_ge (tgt := 39) dX4_passLetters_8 (by decide) (by omega) (by omega) (fun c8 => ?_) (fun c8 => ?_)
      · exact absurd c8 (by omega)
      · refine ev_aload_n dX4_passLetters_11 rfl ?_
        refine ev_getr 0 dX4_passLetters_12 rfl rfl flX4_11 iwX4 (by decide) rfl ?_
        refine ev_aload_n dX4_passLetters_15 rfl ?_
        refine ev_geti 4 4 dX4_passLetters_16 rfl rfl flX4_19 iwX4 (by decide) rfl rfl ?_
        rw [e2]
        refine ev_iald dX4_passLetters_19 rfl (by omega) ?_
        rw [e3]
        refine ev_Sbeq (tgt := 39) (c_X4_isLetter bb) okX4_isLetter dX4_passLetters_20 mlX4_139 ⟨by decide, by decide⟩ rfl (Nat.le_of_ble_eq_true rfl) dX4_passLetters_23 (by decide) (fun c20 => ?_) (fun c20 => ?_)
        · refine ev_vret dX4_passLetters_39 rfl ?_
          rw [run_no c20]
          exact ⟨rfl, rfl⟩
        · refine ev_aload_n dX4_passLetters_26 rfl ?_
          refine ev_dup dX4_passLetters_27 rfl ?_
          refine ev_geti 4 4 dX4_passLetters_28 rfl rfl flX4_19 iwX4 (by decide) rfl rfl ?_
          rw [e2]
          refine ev_iconst dX4_passLetters_31 ?_
          refine ev_iadd dX4_passLetters_32 ?_
          refine ev_put (ty := .int) 4 4 dX4_passLetters_33 rfl rfl flX4_19 iwX4 tyX4_ok nmX4 (by decide) rfl rfl (by decide +kernel) rfl rfl rfl ?_
          refine ev_goto (tgt := 0) dX4_passLetters_36 (by decide) ?_
          have z : mup (mup σ 34 4 p) 34 4 (p + 1) = mup σ 34 4 (p + 1) := by funext a i; unfold mup; split <;> rfl
          rw [z, run_go (by omega) c20]
          exact ih (p + 1) (by omega) (by omega)
  have e : mup σ 34 4 (σ 34 4) = σ := by
    funext a i; unfold mup; split
    · rename_i h; obtain ⟨rfl, rfl⟩ := h; rfl
    · rfl
  have l := loop (σ 34 1 - σ 34 4).toNat (σ 34 4) h4 rfl
  rw [e] at l
  exact l

def nmM (σ : ev_M) (a p : Int) : ev_M := mup (mup σ 34 5 (nm (σ 35) a p)) 34 4 p
theorem nm_s {B : Int → Int} {a p : Int} (h : a ≤ p) : nm B a (p + 1) = min 1000 (nm B a p * 10 + B p - 48) := by
  unfold nm
  rw [show (p + 1 - a).toNat = (p - a).toNat + 1 by omega, nmN, show a + ((p - a).toNat : Int) = p by omega]
theorem nm_bd {B : Int → Int} {a : Int} : ∀ (n : Nat), (∀ k : Int, a ≤ k ∧ k < a + n → isDg (B k) = true) → 0 ≤ nmN B a n ∧ nmN B a n ≤ 1000
  | 0, _ => by simp [nmN]
  | n + 1, h => by
    have h1 := nm_bd (B := B) (a := a) n (fun k hk => h k (by omega))
    have h2 := h (a + n) (by omega)
    unfold isDg at h2
    rw [decide_eq_true_eq] at h2
    unfold nmN
    omega
theorem c_X4_passDigits {b : ev_B} {σ : ev_M} (HT : okT σ) (h4 : 0 ≤ σ 34 4 ∧ σ 34 4 ≤ σ 34 1) : CF b mX4_passDigits [vR 34] σ none (nmM σ (σ 34 4) (run isDg (σ 35) (σ 34 1) (σ 34 4))) := by
  refine ev_enter okX4_passDigits.1 (Nat.le_of_ble_eq_true rfl) ?_
  obtain ⟨t1, t2⟩ := HT
  generalize ha : σ 34 4 = a at h4 ⊢
  have loop : ∀ (n : Nat) (p : Int), a ≤ p ∧ p ≤ σ 34 1 → (∀ k : Int, a ≤ k ∧ k < p → isDg (σ 35 k) = true) → (σ 34 1 - p).toNat = n → Ev b mX4_passDigits 5 [(0, vR 34)] [] (nmM σ a p) (fun r τ => r = none ∧ τ = nmM σ a (run isDg (σ 35) (σ 34 1) p)) := by
    intro n
    induction n with
    | zero =>
      intro p h0 hk hn
      have e1 : nmM σ a p 34 1 = σ 34 1 := by simp [nmM, mup]
      have e2 : nmM σ a p 34 4 = p := by simp [nmM, mup]
      refine ev_aload_n dX4_passDigits_5 rfl ?_
      refine ev_geti 4 4 dX4_passDigits_6 rfl rfl flX4_19 iwX4 (by decide) rfl rfl ?_
      refine ev_aload_n dX4_passDigits_9 rfl ?_
      rw [e2]
      refine ev_geti 1 1 dX4_passDigits_10 rfl rfl flX4_15 iwX4 (by decide) rfl rfl ?_
      rw [e1]
      refine ev_icmp_ge (tgt := 74) dX4_passDigits_13 (by decide) (by omega) (by omega) (fun c13 => ?_) (fun c13 => ?_)
      · refine ev_vret dX4_passDigits_74 rfl ?_
        rw [run_end (by omega)]
        exact ⟨rfl, rfl⟩
      · exact absurd c13 (by omega)
    | succ n ih =>
      intro p h0 hk hn
      have e1 : nmM σ a p 34 1 = σ 34 1 := by simp [nmM, mup]
      have e2 : nmM σ a p 34 4 = p := by simp [nmM, mup]
      have e3 : nmM σ a p 35 p = σ 35 p := by simp [nmM, mup]
      have e4 : nmM σ a p 34 5 = nm (σ 35) a p := by simp [nmM, mup]
      have bb := t2 p (by omega)
      have nb : 0 ≤ nm (σ 35) a p ∧ nm (σ 35) a p ≤ 1000 := nm_bd _ (fun k hk' => hk k (by omega))
      refine ev_aload_n dX4_passDigits_5 rfl ?_
      refine ev_geti 4 4 dX4_passDigits_6 rfl rfl flX4_19 iwX4 (by decide) rfl rfl ?_
      refine ev_aload_n dX4_passDigits_9 rfl ?_
      rw [e2]
      refine ev_geti 1 1 dX4_passDigits_10 rfl rfl flX4_15 iwX4 (by decide) rfl rfl ?_
      rw [e1]
      refine ev_icmp_ge (tgt := 74) dX4_passDigits_13 (by decide) (by omega) (by omega) (fun c13 => ?_) (fun c13 => ?_)
      · exact absurd c13 (by omega)
      · refine ev_aload_n dX4_passDigits_16 rfl ?_
        refine ev_getr 0 dX4_passDigits_17 rfl rfl flX4_11 iwX4 (by decide) rfl ?_
        refine ev_aload_n dX4_passDigits_20 rfl ?_
        refine ev_geti 4 4 dX4_passDigits_21 rfl rfl flX4_19 iwX4 (by decide) rfl rfl ?_
        rw [e2]
        refine ev_iald dX4_passDigits_24 rfl (by omega) ?_
        rw [e3]
        refine ev_Sbeq (tgt := 74) (c_X4_isDigit bb) okX4_isDigit dX4_passDigits_25 mlX4_146 ⟨by decide, by decide⟩ rfl (Nat.le_of_ble_eq_true rfl) dX4_passDigits_28 (by decide) (fun c25 => ?_) (fun c25 => ?_)
        · refine ev_vret dX4_passDigits_74 rfl ?_
          rw [run_no c25]
          exact ⟨rfl, rfl⟩
        · have bd : 48 ≤ σ 35 p ∧ σ 35 p ≤ 57 := by have := c25; unfold isDg at this; rw [decide_eq_true_eq] at this; exact this
          refine ev_aload_n dX4_passDigits_31 rfl ?_
          refine ev_sipush dX4_passDigits_32 (by decide) ?_
          refine ev_aload_n dX4_passDigits_35 rfl ?_
          refine ev_geti 5 5 dX4_passDigits_36 rfl rfl flX4_108 iwX4 (by decide) rfl rfl ?_
          rw [e4]
          refine ev_bipush dX4_passDigits_39 (by decide) ?_
          refine ev_imul dX4_passDigits_41 ?_
          refine ev_aload_n dX4_passDigits_42 rfl ?_
          refine ev_getr 0 dX4_passDigits_43 rfl rfl flX4_11 iwX4 (by decide) rfl ?_
          refine ev_aload_n dX4_passDigits_46 rfl ?_
          refine ev_geti 4 4 dX4_passDigits_47 rfl rfl flX4_19 iwX4 (by decide) rfl rfl ?_
          rw [e2]
          refine ev_iald dX4_passDigits_50 rfl (by omega) ?_
          rw [e3]
          refine ev_iadd dX4_passDigits_51 ?_
          refine ev_bipush dX4_passDigits_52 (by decide) ?_
          refine ev_isub dX4_passDigits_54 ?_
          refine ev_mmin dX4_passDigits_55 mlX4_152 ma_min (by omega) (by omega) ⟨by decide, Nat.le_of_ble_eq_true rfl⟩ ?_
          refine ev_put (ty := .int) 5 5 dX4_passDigits_58 rfl rfl flX4_108 iwX4 tyX4_ok nmX4 (by decide) rfl rfl (by decide +kernel) rfl rfl rfl ?_
          rw [← nm_s h0.1]
          refine ev_aload_n dX4_passDigits_61 rfl ?_
          refine ev_dup dX4_passDigits_62 rfl ?_
          refine ev_geti 4 4 dX4_passDigits_63 rfl rfl flX4_19 iwX4 (by decide) rfl rfl ?_
          rw [show mup (nmM σ a p) 34 5 (nm (σ 35) a (p + 1)) 34 4 = p by simp [nmM, mup]]
          refine ev_iconst dX4_passDigits_66 ?_
          refine ev_iadd dX4_passDigits_67 ?_
          refine ev_put (ty := .int) 4 4 dX4_passDigits_68 rfl rfl flX4_19 iwX4 tyX4_ok nmX4 (by decide) rfl rfl (by decide +kernel) rfl rfl rfl ?_
          refine ev_goto (tgt := 5) dX4_passDigits_71 (by decide) ?_
          have z : mup (mup (nmM σ a p) 34 5 (nm (σ 35) a (p + 1))) 34 4 (p + 1) = nmM σ a (p + 1) := by
            funext x i; unfold nmM mup; repeat' split
            all_goals first | rfl | (exfalso; simp_all)
          rw [z, run_go (by omega) c25]
          refine ih (p + 1) (by omega) (fun k hk' => ?_) (by omega)
          by_cases e : k = p
          · rw [e]; exact c25
          · exact hk k (by omega)
  refine ev_aload_n dX4_passDigits_0 rfl ?_
  refine ev_iconst dX4_passDigits_1 ?_
  refine ev_put (ty := .int) 5 5 dX4_passDigits_2 rfl rfl flX4_108 iwX4 tyX4_ok nmX4 (by decide) rfl rfl (by decide +kernel) rfl rfl rfl ?_
  have e : mup σ 34 5 0 = nmM σ a a := by
    funext x i
    have n0 : nm (σ 35) a a = 0 := by unfold nm; rw [show (a - a).toNat = 0 by omega]; rfl
    unfold nmM mup
    rw [n0]
    by_cases h5 : x = 34 ∧ i = 4
    · rw [if_pos h5, if_neg (by omega)]; obtain ⟨rfl, rfl⟩ := h5; exact ha
    · rw [if_neg h5]
  rw [e]
  exact loop (σ 34 1 - a).toNat a (by omega) (fun k hk => absurd hk (by omega)) rfl

def TK (σ : ev_M) (t : Int × Int × Int) : Prop := σ 34 2 = t.1 ∧ σ 34 3 = t.2.1 ∧ σ 34 4 = t.2.2 ∧ (t.1 = 2 → σ 34 5 = nm (σ 35) t.2.1 t.2.2)
def frT (σ τ : ev_M) : Prop := (∀ a : Nat, a ≠ 34 → τ a = σ a) ∧ τ 34 1 = σ 34 1
theorem frT_rf {σ : ev_M} : frT σ σ := ⟨fun _ _ => rfl, rfl⟩
theorem frT_tr {σ τ ω : ev_M} (h : frT σ τ) (g : frT τ ω) : frT σ ω := ⟨fun a ha => by rw [g.1 a ha, h.1 a ha], by rw [g.2, h.2]⟩
theorem frT_ok {σ τ : ev_M} (h : frT σ τ) (H : okT σ) : okT τ := by
  unfold okT
  rw [h.2, h.1 35 (by decide)]
  exact H
theorem c_X4_advance {b : ev_B} {σ : ev_M} (HT : okT σ) (h4 : 0 ≤ σ 34 4 ∧ σ 34 4 ≤ σ 34 1) : Cl b mX4_advance [vR 34] σ (fun r τ => r = none ∧ TK τ (tk (σ 35) (σ 34 1) (σ 34 4)) ∧ frT σ τ ∧ τ 34 6 = σ 34 6) := by
  refine ev_enter okX4_advance.1 (Nat.le_of_ble_eq_true rfl) ?_
  obtain ⟨t1, t2⟩ := HT
  have fin : ∀ (s : Int), 0 ≤ s ∧ s ≤ σ 34 1 → Ev b mX4_advance 38 [(0, vR 34)] [] (mup σ 34 4 s) (fun r τ => r = none ∧ TK τ (tkAt (σ 35) (σ 34 1) s) ∧ frT σ τ ∧ τ 34 6 = σ 34 6) := by
    intro s hs
    unfold tkAt
    refine ev_aload_n dX4_advance_38 rfl ?_
    refine ev_aload_n dX4_advance_39 rfl ?_
    refine ev_geti 4 4 dX4_advance_40 rfl rfl flX4_19 iwX4 (by decide) rfl rfl ?_
    rw [show mup σ 34 4 s 34 4 = s by simp [mup]]
    refine ev_put (ty := .int) 3 3 dX4_advance_43 rfl rfl flX4_29 iwX4 tyX4_ok nmX4 (by decide) rfl rfl (by decide +kernel) rfl rfl rfl ?_
    generalize hω : mup (mup σ 34 4 s) 34 3 s = ω
    have w1 : ω 34 1 = σ 34 1 := by rw [← hω]; simp [mup]
    have w3 : ω 34 3 = s := by rw [← hω]; simp [mup]
    have w4 : ω 34 4 = s := by rw [← hω]; simp [mup]
    have w6 : ω 34 6 = σ 34 6 := by rw [← hω]; simp [mup]
    have wa : ∀ a : Nat, a ≠ 34 → ω a = σ a := fun a ha => by rw [← hω]; funext i; simp [mup, ha]
    have w35 := wa 35 (by decide)
    refine ev_aload_n dX4_advance_46 rfl ?_
    refine ev_geti 4 4 dX4_advance_47 rfl rfl flX4_19 iwX4 (by decide) rfl rfl ?_
    refine ev_aload_n dX4_advance_50 rfl ?_
    refine ev_geti 1 1 dX4_advance_51 rfl rfl flX4_15 iwX4 (by decide) rfl rfl ?_
    refine ev_icmp_lt (tgt := 65) dX4_advance_54 (by decide) (by omega) (by omega) (fun c54 => ?_) (fun c54 => ?_)
    · have bb := t2 s (by omega)
      have bb2 : (-2147483648 ≤ ω 35 s ∧ ω 35 s < 2147483648) := by rw [w35]; exact bb
      rw [if_neg (by omega)]
      refine ev_aload_n dX4_advance_65 rfl ?_
      refine ev_getr 0 dX4_advance_66 rfl rfl flX4_11 iwX4 (by decide) rfl ?_
      refine ev_aload_n dX4_advance_69 rfl ?_
      refine ev_geti 4 4 dX4_advance_70 rfl rfl flX4_19 iwX4 (by decide) rfl rfl ?_
      rw [w4]
      refine ev_iald dX4_advance_73 rfl (by omega) ?_
      refine ev_Sbeq (tgt := 92) (c_X4_isLetter bb2) okX4_isLetter dX4_advance_74 mlX4_139 ⟨by decide, by decide⟩ rfl (Nat.le_of_ble_eq_true rfl) dX4_advance_77 (by decide) (fun c74 => ?_) (fun c74 => ?_)
      · rw [w35] at c74
        rw [if_neg c74]
        refine ev_aload_n dX4_advance_92 rfl ?_
        refine ev_getr 0 dX4_advance_93 rfl rfl flX4_11 iwX4 (by decide) rfl ?_
        refine ev_aload_n dX4_advance_96 rfl ?_
        refine ev_geti 4 4 dX4_advance_97 rfl rfl flX4_19 iwX4 (by decide) rfl rfl ?_
        rw [w4]
        refine ev_iald dX4_advance_100 rfl (by omega) ?_
        refine ev_Sbeq (tgt := 119) (c_X4_isDigit bb2) okX4_isDigit dX4_advance_101 mlX4_146 ⟨by decide, by decide⟩ rfl (Nat.le_of_ble_eq_true rfl) dX4_advance_104 (by decide) (fun c101 => ?_) (fun c101 => ?_)
        · rw [w35] at c101
          rw [if_neg c101]
          refine ev_aload_n dX4_advance_119 rfl ?_
          refine ev_aload_n dX4_advance_120 rfl ?_
          refine ev_getr 0 dX4_advance_121 rfl rfl flX4_11 iwX4 (by decide) rfl ?_
          refine ev_aload_n dX4_advance_124 rfl ?_
          refine ev_geti 4 4 dX4_advance_125 rfl rfl flX4_19 iwX4 (by decide) rfl rfl ?_
          rw [w4]
          refine ev_iald dX4_advance_128 rfl (by omega) ?_
          refine ev_bipush dX4_advance_129 (by decide) ?_
          refine ev_icmp_ne (tgt := 138) dX4_advance_131 (by decide) (by omega) (by omega) (fun c131 => ?_) (fun c131 => ?_)
          · rw [w35] at c131
            rw [if_neg c131]
            refine ev_iconst dX4_advance_138 ?_
            refine ev_put (ty := .int) 2 2 dX4_advance_139 rfl rfl flX4_32 iwX4 tyX4_ok nmX4 (by decide) rfl rfl (by decide +kernel) rfl rfl rfl ?_
            refine ev_aload_n dX4_advance_142 rfl ?_
            refine ev_dup dX4_advance_143 rfl ?_
            refine ev_geti 4 4 dX4_advance_144 rfl rfl flX4_19 iwX4 (by decide) rfl rfl ?_
            rw [show mup ω 34 2 4 34 4 = s by simp [mup, w4]]
            refine ev_iconst dX4_advance_147 ?_
            refine ev_iadd dX4_advance_148 ?_
            refine ev_put (ty := .int) 4 4 dX4_advance_149 rfl rfl flX4_19 iwX4 tyX4_ok nmX4 (by decide) rfl rfl (by decide +kernel) rfl rfl rfl ?_
            refine ev_vret dX4_advance_152 rfl ?_
            refine ⟨rfl, ⟨by simp [mup], by simp [mup, w3], by simp [mup], fun h => by simp at h⟩, ⟨fun a ha => ?_, by simp [mup, w1]⟩, by simp [mup, w6]⟩
            rw [mup_ne ha, mup_ne ha, wa a ha]
          · rw [w35] at c131
            rw [if_pos c131]
            refine ev_iconst dX4_advance_134 ?_
            refine ev_goto (tgt := 139) dX4_advance_135 (by decide) ?_
            refine ev_put (ty := .int) 2 2 dX4_advance_139 rfl rfl flX4_32 iwX4 tyX4_ok nmX4 (by decide) rfl rfl (by decide +kernel) rfl rfl rfl ?_
            refine ev_aload_n dX4_advance_142 rfl ?_
            refine ev_dup dX4_advance_143 rfl ?_
            refine ev_geti 4 4 dX4_advance_144 rfl rfl flX4_19 iwX4 (by decide) rfl rfl ?_
            rw [show mup ω 34 2 3 34 4 = s by simp [mup, w4]]
            refine ev_iconst dX4_advance_147 ?_
            refine ev_iadd dX4_advance_148 ?_
            refine ev_put (ty := .int) 4 4 dX4_advance_149 rfl rfl flX4_19 iwX4 tyX4_ok nmX4 (by decide) rfl rfl (by decide +kernel) rfl rfl rfl ?_
            refine ev_vret dX4_advance_152 rfl ?_
            refine ⟨rfl, ⟨by simp [mup], by simp [mup, w3], by simp [mup], fun h => by simp at h⟩, ⟨fun a ha => ?_, by simp [mup, w1]⟩, by simp [mup, w6]⟩
            rw [mup_ne ha, mup_ne ha, wa a ha]
        · rw [w35] at c101
          rw [if_pos c101]
          refine ev_aload_n dX4_advance_107 rfl ?_
          refine ev_iconst dX4_advance_108 ?_
          refine ev_put (ty := .int) 2 2 dX4_advance_109 rfl rfl flX4_32 iwX4 tyX4_ok nmX4 (by decide) rfl rfl (by decide +kernel) rfl rfl rfl ?_
          generalize hυ : mup ω 34 2 2 = υ
          have v1 : υ 34 1 = σ 34 1 := by rw [← hυ]; simp [mup, w1]
          have v2 : υ 34 2 = 2 := by rw [← hυ]; simp [mup]
          have v3 : υ 34 3 = s := by rw [← hυ]; simp [mup, w3]
          have v4 : υ 34 4 = s := by rw [← hυ]; simp [mup, w4]
          have v6 : υ 34 6 = σ 34 6 := by rw [← hυ]; simp [mup, w6]
          have va : ∀ a : Nat, a ≠ 34 → υ a = σ a := fun a ha => by rw [← hυ, mup_ne ha, wa a ha]
          have v35 := va 35 (by decide)
          refine ev_aload_n dX4_advance_112 rfl ?_
          refine ev_V0 (c_X4_passDigits ⟨by rw [v1]; exact t1, by rw [v1, v35]; exact t2⟩ (by rw [v4, v1]; exact hs)) okX4_passDigits dX4_advance_113 mlX4_149 rfl rfl ⟨by decide, by decide⟩ rfl (Nat.le_of_ble_eq_true rfl) ?_
          refine ev_goto (tgt := 152) dX4_advance_116 (by decide) ?_
          refine ev_vret dX4_advance_152 rfl ?_
          rw [v4, v1, v35]
          refine ⟨rfl, ⟨by simp [nmM, mup, v2], by simp [nmM, mup, v3], by simp [nmM, mup], fun _ => by unfold nmM; rw [mup_ne (a := 35) (by decide), mup_ne (a := 35) (by decide), v35]; simp [mup]⟩, ⟨fun a ha => ?_, by simp [nmM, mup, v1]⟩, by simp [nmM, mup, v6]⟩
          unfold nmM
          rw [mup_ne ha, mup_ne ha, va a ha]
      · rw [w35] at c74
        rw [if_pos c74]
        refine ev_aload_n dX4_advance_80 rfl ?_
        refine ev_iconst dX4_advance_81 ?_
        refine ev_put (ty := .int) 2 2 dX4_advance_82 rfl rfl flX4_32 iwX4 tyX4_ok nmX4 (by decide) rfl rfl (by decide +kernel) rfl rfl rfl ?_
        generalize hυ : mup ω 34 2 1 = υ
        have v1 : υ 34 1 = σ 34 1 := by rw [← hυ]; simp [mup, w1]
        have v2 : υ 34 2 = 1 := by rw [← hυ]; simp [mup]
        have v3 : υ 34 3 = s := by rw [← hυ]; simp [mup, w3]
        have v4 : υ 34 4 = s := by rw [← hυ]; simp [mup, w4]
        have v6 : υ 34 6 = σ 34 6 := by rw [← hυ]; simp [mup, w6]
        have va : ∀ a : Nat, a ≠ 34 → υ a = σ a := fun a ha => by rw [← hυ, mup_ne ha, wa a ha]
        have v35 := va 35 (by decide)
        refine ev_aload_n dX4_advance_85 rfl ?_
        refine ev_V0 (c_X4_passLetters ⟨by rw [v1]; exact t1, by rw [v1, v35]; exact t2⟩ (by rw [v4, v1]; exact hs)) okX4_passLetters dX4_advance_86 mlX4_143 rfl rfl ⟨by decide, by decide⟩ rfl (Nat.le_of_ble_eq_true rfl) ?_
        refine ev_goto (tgt := 152) dX4_advance_89 (by decide) ?_
        refine ev_vret dX4_advance_152 rfl ?_
        rw [v4, v1, v35]
        refine ⟨rfl, ⟨by simp [mup, v2], by simp [mup, v3], by simp [mup], fun h => by simp at h⟩, ⟨fun a ha => ?_, by simp [mup, v1]⟩, by simp [mup, v6]⟩
        rw [mup_ne ha, va a ha]
    · rw [if_pos (by omega)]
      refine ev_aload_n dX4_advance_57 rfl ?_
      refine ev_iconst dX4_advance_58 ?_
      refine ev_put (ty := .int) 2 2 dX4_advance_59 rfl rfl flX4_32 iwX4 tyX4_ok nmX4 (by decide) rfl rfl (by decide +kernel) rfl rfl rfl ?_
      refine ev_goto (tgt := 152) dX4_advance_62 (by decide) ?_
      refine ev_vret dX4_advance_152 rfl ?_
      refine ⟨rfl, ⟨by simp [mup], by simp [mup, w3], by simp [mup, w4], fun h => by simp at h⟩, ⟨fun a ha => ?_, by simp [mup, w1]⟩, by simp [mup, w6]⟩
      rw [mup_ne ha, wa a ha]
  have loop : ∀ (n : Nat) (p : Int), 0 ≤ p ∧ p ≤ σ 34 1 → (σ 34 1 - p).toNat = n → Ev b mX4_advance 0 [(0, vR 34)] [] (mup σ 34 4 p) (fun r τ => r = none ∧ TK τ (tk (σ 35) (σ 34 1) p) ∧ frT σ τ ∧ τ 34 6 = σ 34 6) := by
    intro n
    induction n with
    | zero =>
      intro p h0 hn
      have e1 : mup σ 34 4 p 34 1 = σ 34 1 := by simp [mup]
      have e2 : mup σ 34 4 p 34 4 = p := by simp [mup]
      refine ev_aload_n dX4_advance_0 rfl ?_
      refine ev_geti 4 4 dX4_advance_1 rfl rfl flX4_19 iwX4 (by decide) rfl rfl ?_
      refine ev_aload_n dX4_advance_4 rfl ?_
      rw [e2]
      refine ev_geti 1 1 dX4_advance_5 rfl rfl flX4_15 iwX4 (by decide) rfl rfl ?_
      rw [e1]
      refine ev_icmp_ge (tgt := 38) dX4_advance_8 (by decide) (by omega) (by omega) (fun c8 => ?_) (fun c8 => ?_)
      · unfold tk
        rw [run_end (by omega)]
        exact fin p h0
      · exact absurd c8 (by omega)
    | succ n ih =>
      intro p h0 hn
      have e1 : mup σ 34 4 p 34 1 = σ 34 1 := by simp [mup]
      have e2 : mup σ 34 4 p 34 4 = p := by simp [mup]
      have e3 : mup σ 34 4 p 35 p = σ 35 p := by simp [mup]
      have bb := t2 p (by omega)
      refine ev_aload_n dX4_advance_0 rfl ?_
      refine ev_geti 4 4 dX4_advance_1 rfl rfl flX4_19 iwX4 (by decide) rfl rfl ?_
      refine ev_aload_n dX4_advance_4 rfl ?_
      rw [e2]
      refine ev_geti 1 1 dX4_advance_5 rfl rfl flX4_15 iwX4 (by decide) rfl rfl ?_
      rw [e1]
      refine ev_icmp_ge (tgt := 38) dX4_advance_8 (by decide) (by omega) (by omega) (fun c8 => ?_) (fun c8 => ?_)
      · exact absurd c8 (by omega)
      · refine ev_aload_n dX4_advance_11 rfl ?_
        refine ev_getr 0 dX4_advance_12 rfl rfl flX4_11 iwX4 (by decide) rfl ?_
        refine ev_aload_n dX4_advance_15 rfl ?_
        refine ev_geti 4 4 dX4_advance_16 rfl rfl flX4_19 iwX4 (by decide) rfl rfl ?_
        rw [e2]
        refine ev_iald dX4_advance_19 rfl (by omega) ?_
        rw [e3]
        refine ev_bipush dX4_advance_20 (by decide) ?_
        refine ev_icmp_ne (tgt := 38) dX4_advance_22 (by decide) (by omega) (by omega) (fun c22 => ?_) (fun c22 => ?_)
        · unfold tk
          rw [run_no (by unfold isSp; rw [decide_eq_true_eq]; exact c22)]
          exact fin p h0
        · refine ev_aload_n dX4_advance_25 rfl ?_
          refine ev_dup dX4_advance_26 rfl ?_
          refine ev_geti 4 4 dX4_advance_27 rfl rfl flX4_19 iwX4 (by decide) rfl rfl ?_
          rw [e2]
          refine ev_iconst dX4_advance_30 ?_
          refine ev_iadd dX4_advance_31 ?_
          refine ev_put (ty := .int) 4 4 dX4_advance_32 rfl rfl flX4_19 iwX4 tyX4_ok nmX4 (by decide) rfl rfl (by decide +kernel) rfl rfl rfl ?_
          refine ev_goto (tgt := 0) dX4_advance_35 (by decide) ?_
          have z : mup (mup σ 34 4 p) 34 4 (p + 1) = mup σ 34 4 (p + 1) := by funext a i; unfold mup; split <;> rfl
          unfold tk
          rw [z, run_go (by omega) (show isSp (σ 35 p) = true from decide_eq_true c22)]
          exact ih (p + 1) (by omega) (by omega)
  have e : mup σ 34 4 (σ 34 4) = σ := by
    funext a i; unfold mup; split
    · rename_i h; obtain ⟨rfl, rfl⟩ := h; rfl
    · rfl
  have l := loop (σ 34 1 - σ 34 4).toNat (σ 34 4) h4 rfl
  rw [e] at l
  exact l
theorem c_X4_isWord {b : ev_B} {σ : ev_M} {j : Nat} {t : Int × Int × Int} (hj : j < 13) (HT : okT σ) (ht : TK σ t) (h2 : 0 ≤ t.2.1 ∧ t.2.1 ≤ t.2.2 ∧ t.2.2 ≤ σ 34 1) (h3 : 0 ≤ t.1 ∧ t.1 ≤ 4) : CF b mX4_isWord [vR 34, vR (61 + j)] σ (some (vI (if wd (σ 35) t j = true then 1 else 0))) σ := by
  refine ev_enter okX4_isWord.1 (Nat.le_of_ble_eq_true rfl) ?_
  obtain ⟨k1, k2, k3, k4⟩ := ht
  obtain ⟨t1, t2⟩ := HT
  have hw := wln_bd j hj
  have loop : ∀ (m i : Nat), i + m = wln j → t.1 = 1 → t.2.2 - t.2.1 = wln j → wdN (σ 35) t.2.1 j i = true → Ev b mX4_isWord 28 [(0, vR 34), (1, vR (61 + j)), (2, vI i)] [] σ (fun r τ => r = some (vI (if wd (σ 35) t j = true then 1 else 0)) ∧ τ = σ) := by
    intro m
    induction m with
    | zero =>
      intro i h g1 g2 hd
      refine ev_iload_n dX4_isWord_28 rfl ?_
      refine ev_aload_n dX4_isWord_29 rfl ?_
      refine ev_T1 (c_J0_length hj) okJ0_length_8abf5 dX4_isWord_30 mlX4_131 hj rfl ⟨by decide, by decide⟩ rfl (Nat.le_of_ble_eq_true rfl) ?_
      refine ev_icmp_ge (tgt := 63) dX4_isWord_33 (by decide) (by omega) (by omega) (fun c33 => ?_) (fun c33 => ?_)
      · refine ev_iconst dX4_isWord_63 ?_
        refine ev_iret dX4_isWord_64 rfl (by first | rfl | exact ev_nb) ?_
        rw [if_pos (by unfold wd; rw [show wln j = i by omega, hd, decide_eq_true (by omega)]; rfl)]
        exact ⟨rfl, rfl⟩
      · exact absurd c33 (by omega)
    | succ m ih =>
      intro i h g1 g2 hd
      have bb := t2 (t.2.1 + i) (by omega)
      have cb := (chr_all j hj i (by omega)).1
      refine ev_iload_n dX4_isWord_28 rfl ?_
      refine ev_aload_n dX4_isWord_29 rfl ?_
      refine ev_T1 (c_J0_length hj) okJ0_length_8abf5 dX4_isWord_30 mlX4_131 hj rfl ⟨by decide, by decide⟩ rfl (Nat.le_of_ble_eq_true rfl) ?_
      refine ev_icmp_ge (tgt := 63) dX4_isWord_33 (by decide) (by omega) (by omega) (fun c33 => ?_) (fun c33 => ?_)
      · exact absurd c33 (by omega)
      · refine ev_aload_n dX4_isWord_36 rfl ?_
        refine ev_getr 0 dX4_isWord_37 rfl rfl flX4_11 iwX4 (by decide) rfl ?_
        refine ev_aload_n dX4_isWord_40 rfl ?_
        refine ev_geti 3 3 dX4_isWord_41 rfl rfl flX4_29 iwX4 (by decide) rfl rfl ?_
        rw [k2]
        refine ev_iload_n dX4_isWord_44 rfl ?_
        refine ev_iadd dX4_isWord_45 ?_
        refine ev_iald dX4_isWord_46 rfl (by omega) ?_
        refine ev_aload_n dX4_isWord_47 rfl ?_
        refine ev_iload_n dX4_isWord_48 rfl ?_
        refine ev_T1 (c_J0_charAt hj (by omega)) okJ0_charAt_5068e dX4_isWord_49 mlX4_135 hj rfl ⟨by decide, by decide⟩ rfl (Nat.le_of_ble_eq_true rfl) ?_
        refine ev_icmp_eq (tgt := 57) dX4_isWord_52 (by decide) (by omega) (by omega) (fun c52 => ?_) (fun c52 => ?_)
        · refine ev_iinc dX4_isWord_57 rfl (by decide) rfl ?_
          refine ev_goto (tgt := 28) dX4_isWord_60 (by decide) ?_
          refine ih (i + 1) (by omega) g1 g2 ?_
          unfold wdN
          rw [hd, decide_eq_true c52]
          rfl
        · refine ev_iconst dX4_isWord_55 ?_
          refine ev_iret dX4_isWord_56 rfl (by first | rfl | exact ev_nb) ?_
          rw [if_neg (by unfold wd; rw [wdN_no c52 (n := wln j) (by omega)]; simp)]
          exact ⟨rfl, rfl⟩
  refine ev_aload_n dX4_isWord_0 rfl ?_
  refine ev_geti 2 2 dX4_isWord_1 rfl rfl flX4_32 iwX4 (by decide) rfl rfl ?_
  rw [k1]
  refine ev_iconst dX4_isWord_4 ?_
  refine ev_icmp_ne (tgt := 24) dX4_isWord_5 (by decide) (by omega) (by omega) (fun c5 => ?_) (fun c5 => ?_)
  · refine ev_iconst dX4_isWord_24 ?_
    refine ev_iret dX4_isWord_25 rfl (by first | rfl | exact ev_nb) ?_
    rw [if_neg (by unfold wd; rw [decide_eq_false (by omega)]; simp)]
    exact ⟨rfl, rfl⟩
  · refine ev_aload_n dX4_isWord_8 rfl ?_
    refine ev_geti 4 4 dX4_isWord_9 rfl rfl flX4_19 iwX4 (by decide) rfl rfl ?_
    rw [k3]
    refine ev_aload_n dX4_isWord_12 rfl ?_
    refine ev_geti 3 3 dX4_isWord_13 rfl rfl flX4_29 iwX4 (by decide) rfl rfl ?_
    rw [k2]
    refine ev_isub dX4_isWord_16 ?_
    refine ev_aload_n dX4_isWord_17 rfl ?_
    refine ev_T1 (c_J0_length hj) okJ0_length_8abf5 dX4_isWord_18 mlX4_131 hj rfl ⟨by decide, by decide⟩ rfl (Nat.le_of_ble_eq_true rfl) ?_
    refine ev_icmp_eq (tgt := 26) dX4_isWord_21 (by decide) (by omega) (by omega) (fun c21 => ?_) (fun c21 => ?_)
    · refine ev_iconst dX4_isWord_26 ?_
      refine ev_istore_n dX4_isWord_27 (by decide) rfl ?_
      exact loop (wln j) 0 (by omega) c5 c21 rfl
    · refine ev_iconst dX4_isWord_24 ?_
      refine ev_iret dX4_isWord_25 rfl (by first | rfl | exact ev_nb) ?_
      rw [if_neg (by unfold wd; rw [decide_eq_false (by omega)]; simp)]
      exact ⟨rfl, rfl⟩
