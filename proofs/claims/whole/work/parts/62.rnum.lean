/-! the model's words are the class's; its numbers -/
def enc (j : Nat) : Nat → Int
  | 0 => 0
  | i + 1 => 32 * enc j i + (chr j i - 96)
theorem enc_bd : ∀ j : Nat, j < 13 → ∀ i : Nat, i ≤ wln j → 0 ≤ enc j i ∧ enc j i ≤ 36028797018963967 := by decide +kernel
def wcn (j : Nat) : Int := enc j (wln j)
theorem wcn_all : (wcn 0 = 647647410 ∧ wcn 1 = 2190877894 ∧ wcn 2 = 12940714148 ∧ wcn 3 = 136228 ∧ wcn 4 = 394393 ∧ wcn 5 = 674915359922) ∧ wcn 6 = 676774066 ∧ wcn 7 = 6309 ∧ wcn 8 = 422355342963 ∧ wcn 9 = 52 ∧ wcn 10 = 24384564 ∧ wcn 11 = 655 ∧ wcn 12 = 3751667 := by decide +kernel
theorem wv_s {B : Int → Int} {a : Int} {n : Nat} (hl : 97 ≤ B (a + n) ∧ B (a + n) ≤ 122) (hp : 0 ≤ wv B a n) : (36028797018963967 < wv B a n ∧ wv B a (n + 1) = wv B a n) ∨ (wv B a n ≤ 36028797018963967 ∧ wv B a (n + 1) = 32 * wv B a n + (B (a + n) - 96)) := by
  by_cases z : 36028797018963967 < wv B a n
  · exact Or.inl ⟨z, by rw [wv, if_pos z]⟩
  · refine Or.inr ⟨by omega, ?_⟩
    rw [wv, if_neg z, ev_tl (by omega)]
theorem wv_pos {B : Int → Int} {a : Int} : ∀ n : Nat, (∀ k : Nat, k < n → 97 ≤ B (a + k) ∧ B (a + k) ≤ 122) → 0 ≤ wv B a n ∧ (n ≠ 0 → 1 ≤ wv B a n)
  | 0, _ => by simp [wv]
  | n + 1, h => by
    have ih := wv_pos (B := B) (a := a) n (fun k hk => h k (by omega))
    have hn := h n (by omega)
    rcases wv_s hn ih.1 with ⟨z1, z2⟩ | ⟨z1, z2⟩
    · rw [z2]; omega
    · rw [z2]; omega
theorem wv_enc {B : Int → Int} {a : Int} {j : Nat} (hj : j < 13) : ∀ (i n : Nat), i ≤ wln j → (∀ k : Nat, k < n → 97 ≤ B (a + k) ∧ B (a + k) ≤ 122) → (wv B a n = enc j i ↔ n = i ∧ wdN B a j i = true)
  | 0, n, _, h => by
    have p := wv_pos n h
    constructor
    · intro e
      have e2 : wv B a n = 0 := e
      refine ⟨?_, rfl⟩
      by_cases z : n = 0
      · exact z
      · have := p.2 z; omega
    · rintro ⟨rfl, _⟩; rfl
  | i + 1, n, hi, h => by
    have eb := enc_bd j hj (i + 1) hi
    have eb0 := enc_bd j hj i (by omega)
    have cb := (chr_all j hj i (by omega)).1
    have es : enc j (i + 1) = 32 * enc j i + (chr j i - 96) := rfl
    match n, h with
    | 0, h =>
      constructor
      · intro e
        have e2 : (0 : Int) = enc j (i + 1) := e
        omega
      · rintro ⟨z, _⟩; exact absurd z (by omega)
    | n + 1, h =>
      have ih := wv_enc (B := B) (a := a) hj i n (by omega) (fun k hk => h k (by omega))
      have p := wv_pos n (fun k hk => h k (by omega))
      have hn := h n (by omega)
      have ws : wdN B a j (i + 1) = (wdN B a j i && decide (B (a + i) = chr j i)) := rfl
      constructor
      · intro e
        rcases wv_s hn p.1 with ⟨z1, z2⟩ | ⟨z1, z2⟩
        · omega
        · have e1 : wv B a n = enc j i := by omega
          have e2 : B (a + n) = chr j i := by omega
          obtain ⟨rfl, w⟩ := ih.mp e1
          exact ⟨rfl, by rw [ws, w, decide_eq_true e2]; rfl⟩
      · rintro ⟨e, w⟩
        have e' : n = i := by omega
        subst e'
        rw [ws, Bool.and_eq_true, decide_eq_true_eq] at w
        have e1 := ih.mpr ⟨rfl, w.1⟩
        rcases wv_s hn p.1 with ⟨z1, z2⟩ | ⟨z1, z2⟩
        · omega
        · rw [z2, e1, w.2, es]
/-- the word here is that one -/
theorem wdv_wd {B : Int → Int} {L : Int} {t : Tk} {j : Nat} (hj : j < 13) (ht : t = tkAt B L t.2.1) (hb : 0 ≤ t.2.1 ∧ t.2.1 ≤ t.2.2) : wdv B t = wcn j ↔ wd B t j = true := by
  have wl := wln_bd j hj
  have eb := wcn_all
  unfold wdv wd
  by_cases z : t.1 = 1
  · rw [if_pos z]
    have lt : ∀ k : Nat, k < (t.2.2 - t.2.1).toNat → 97 ≤ B (t.2.1 + k) ∧ B (t.2.1 + k) ≤ 122 := by
      intro k hk
      have z2 := z
      rw [ht] at z2
      have e2 : t.2.2 = (tkAt B L t.2.1).2.2 := by rw [← ht]
      have il := tk1.mp z2
      unfold bAt at il
      by_cases y : t.2.1 < L
      · rw [if_pos y] at il
        have e3 : (tkAt B L t.2.1).2.2 = run isLt B L t.2.1 := by
          unfold tkAt; rw [if_neg (by omega), if_pos il]
        have r := (run_bd (f := isLt) (B := B) (L := L) (p := t.2.1) (by omega)).2.2 (t.2.1 + k) (by omega)
        unfold isLt at r
        rw [decide_eq_true_eq] at r
        exact r
      · rw [if_neg y] at il; exact absurd il (by decide)
    have w := wv_enc (B := B) (a := t.2.1) hj (wln j) (t.2.2 - t.2.1).toNat (Nat.le_refl _) lt
    unfold wcn
    rw [w, Bool.and_eq_true, decide_eq_true_eq]
    constructor
    · rintro ⟨x1, x2⟩; exact ⟨⟨z, by omega⟩, x2⟩
    · rintro ⟨⟨_, x1⟩, x2⟩; exact ⟨by omega, x2⟩
  · rw [if_neg z]
    constructor
    · intro e
      exfalso
      have nz : ∀ j : Nat, j < 13 → wcn j ≠ 0 := by decide +kernel
      exact nz j hj e.symm
    · intro e
      rw [Bool.and_eq_true, decide_eq_true_eq] at e
      exact absurd e.1.1 z
